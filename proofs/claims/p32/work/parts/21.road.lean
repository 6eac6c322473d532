/-! laid by wip/p2/build.py -/
theorem dX7_isDot_0 : decode cX7_isDot 0 = .ok (.iload_n 1, 1) := by decide +kernel
theorem dX7_isDot_1 : decode cX7_isDot 1 = .ok (.ifCond .lt 15, 3) := by decide +kernel
theorem dX7_isDot_4 : decode cX7_isDot 4 = .ok (.iload_n 1, 1) := by decide +kernel
theorem dX7_isDot_5 : decode cX7_isDot 5 = .ok (.aload_n 0, 1) := by decide +kernel
theorem dX7_isDot_6 : decode cX7_isDot 6 = .ok (.getfield 9, 3) := by decide +kernel
theorem dX7_isDot_9 : decode cX7_isDot 9 = .ok (.if_icmp .ge 7, 3) := by decide +kernel
theorem dX7_isDot_12 : decode cX7_isDot 12 = .ok (.iconst 1, 1) := by decide +kernel
theorem dX7_isDot_13 : decode cX7_isDot 13 = .ok (.goto 4, 3) := by decide +kernel
theorem dX7_isDot_16 : decode cX7_isDot 16 = .ok (.iconst 0, 1) := by decide +kernel
theorem dX7_isDot_17 : decode cX7_isDot 17 = .ok (.ireturn, 1) := by decide +kernel
set_option maxRecDepth 100000 in
set_option maxHeartbeats 4000000 in
theorem c_X7_isDot {l : Launch} {D : q_D} (τ : q_T) (σ : q_V) (a0 : Nat) (x1 : Int32) (hI : q_I τ σ) (tA0 : τ a0 = some (6, 1)) : q_Cp l D yX7_isDot cX7_isDot 2 (some .boolean) 0 0 τ σ [.ref a0, .int x1] (fun r => (q_r r 0 1) ∧ (r.toInt = f_X7_isDot (fx_N σ) a0 x1.toInt) ∧ (r.toInt = 1 → 0 ≤ x1.toInt ∧ x1.toInt ≤ 63) ∧ (∀ d : Int32, σ a0 0 = .int d → (r.toInt = 1 ↔ (0 ≤ x1.toInt ∧ x1.toInt < d.toInt)))) := by
  refine q_meti rfl (Nat.le_of_ble_eq_true rfl) (fun X hG hE => ?_)
  show q_O X 0 0 τ σ 0 [(0, .ref a0), (1, .int x1)] []
  obtain ⟨Fv, hF⟩ : ∃ z, fx_eq z (f_X7_isDot (fx_N σ) a0 x1.toInt) := ⟨_, fx_rf⟩
  have hF0 := hF
  unfold f_X7_isDot at hF
  obtain ⟨q_1v, q_1f, q_1r⟩ := (hI a0 6 1 tA0 0 (by decide)).int ff_6_0
  replace hF := fx_I hF q_1f rfl
  refine q_iload_n (pc := 0) hG dX7_isDot_0 1 rfl ?_
  refine q_if_lt (pc := 1) hG 16 dX7_isDot_1 rfl ?_ ?_
  · intro c1
    replace hF := fx_lt1 hF rfl rfl c1
    refine q_iconst (pc := 16) hG dX7_isDot_16 ki_0 ?_
    have r_2 := q_zlt (q_r_any x1) c1
    exact q_zrt hG hE dX7_isDot_17 (q_r.mono rl_0 (by decide)) ⟨rfl, (q_r.mono rl_0 (by decide)), (by rw [tl_0]; exact fx_end hF hF0), (fun q => (by have o0 := c1; have o1 := r_2; have l2 := tl_0; have o3 := q; unfold q_r at o1; omega)), (fun d e => by cases e.symm.trans q_1f; exact (by have o0 := c1; have o1 := q_1r; have o2 := r_2; have l3 := tl_0; unfold q_r at o1 o2; omega))⟩
  intro c1
  replace hF := fx_lt2 hF rfl rfl c1
  refine q_iload_n (pc := 4) hG dX7_isDot_4 1 rfl ?_
  refine q_aload_n (pc := 5) hG dX7_isDot_5 0 rfl ?_
  refine q_getV (pc := 6) (v := .int q_1v) hG fl_X7_9 dX7_isDot_6 tA0 q_1f ?_
  refine q_icmp_ge (pc := 9) hG 16 dX7_isDot_9 rfl ?_ ?_
  · intro c9
    have r_3 := q_zge (q_r_any x1) c1
    replace hF := fx_lt2 hF rfl rfl c9
    refine q_iconst (pc := 16) hG dX7_isDot_16 ki_0 ?_
    have r_4 := q_rge r_3 q_1r c9
    exact q_zrt hG hE dX7_isDot_17 (q_r.mono rl_0 (by decide)) ⟨rfl, (q_r.mono rl_0 (by decide)), (by rw [tl_0]; exact fx_end hF hF0), (fun q => (by have o0 := c1; have o1 := c9; have o2 := q_1r; have o3 := r_4; have l4 := tl_0; have o5 := q; unfold q_r at o2 o3; omega)), (fun d e => by cases e.symm.trans q_1f; exact (by have o0 := c1; have o1 := c9; have o2 := q_1r; have o3 := r_4; have l4 := tl_0; unfold q_r at o2 o3; omega))⟩
  intro c9
  have r_5 := q_zge (q_r_any x1) c1
  replace hF := fx_lt1 hF rfl rfl c9
  refine q_iconst (pc := 12) hG dX7_isDot_12 ki_1 ?_
  refine q_goto (pc := 13) 17 hG dX7_isDot_13 rfl ?_
  have r_6 := q_rlt r_5 q_1r c9 63 (by decide)
  exact q_zrt hG hE dX7_isDot_17 (q_r.mono rl_1 (by decide)) ⟨rfl, (q_r.mono rl_1 (by decide)), (by rw [tl_1]; exact fx_end hF hF0), (fun q => (by have o0 := c1; have o1 := c9; have o2 := q_1r; have o3 := r_6; have l4 := tl_1; have o5 := q; unfold q_r at o2 o3; omega)), (fun d e => by cases e.symm.trans q_1f; exact (by have o0 := c1; have o1 := c9; have o2 := q_1r; have o3 := r_6; have l4 := tl_1; unfold q_r at o2 o3; omega))⟩
theorem dX7_isStretch_0 : decode cX7_isStretch 0 = .ok (.aload_n 0, 1) := by decide +kernel
theorem dX7_isStretch_1 : decode cX7_isStretch 1 = .ok (.iload_n 1, 1) := by decide +kernel
theorem dX7_isStretch_2 : decode cX7_isStretch 2 = .ok (.invokevirtual 81, 3) := by decide +kernel
theorem dX7_isStretch_5 : decode cX7_isStretch 5 = .ok (.ifCond .eq 20, 3) := by decide +kernel
theorem dX7_isStretch_8 : decode cX7_isStretch 8 = .ok (.aload_n 0, 1) := by decide +kernel
theorem dX7_isStretch_9 : decode cX7_isStretch 9 = .ok (.iload_n 2, 1) := by decide +kernel
theorem dX7_isStretch_10 : decode cX7_isStretch 10 = .ok (.invokevirtual 81, 3) := by decide +kernel
theorem dX7_isStretch_13 : decode cX7_isStretch 13 = .ok (.ifCond .eq 12, 3) := by decide +kernel
theorem dX7_isStretch_16 : decode cX7_isStretch 16 = .ok (.iload_n 1, 1) := by decide +kernel
theorem dX7_isStretch_17 : decode cX7_isStretch 17 = .ok (.iload_n 2, 1) := by decide +kernel
theorem dX7_isStretch_18 : decode cX7_isStretch 18 = .ok (.if_icmp .gt 7, 3) := by decide +kernel
theorem dX7_isStretch_21 : decode cX7_isStretch 21 = .ok (.iconst 1, 1) := by decide +kernel
theorem dX7_isStretch_22 : decode cX7_isStretch 22 = .ok (.goto 4, 3) := by decide +kernel
theorem dX7_isStretch_25 : decode cX7_isStretch 25 = .ok (.iconst 0, 1) := by decide +kernel
theorem dX7_isStretch_26 : decode cX7_isStretch 26 = .ok (.ireturn, 1) := by decide +kernel
set_option maxRecDepth 100000 in
set_option maxHeartbeats 4000000 in
theorem c_X7_isStretch {l : Launch} {D : q_D} (τ : q_T) (σ : q_V) (a0 : Nat) (x1 : Int32) (x2 : Int32) (hI : q_I τ σ) (tA0 : τ a0 = some (6, 1)) : q_Cp l D yX7_isStretch cX7_isStretch 3 (some .boolean) 1 21 τ σ [.ref a0, .int x1, .int x2] (fun r => (q_r r 0 1) ∧ (r.toInt = f_X7_isStretch (fx_N σ) a0 x1.toInt x2.toInt) ∧ (r.toInt = 1 → (0 ≤ x1.toInt ∧ x1.toInt ≤ 63) ∧ (0 ≤ x2.toInt ∧ x2.toInt ≤ 63)) ∧ (∀ d : Int32, σ a0 0 = .int d → (r.toInt = 1 ↔ ((0 ≤ x1.toInt ∧ x1.toInt < d.toInt) ∧ (0 ≤ x2.toInt ∧ x2.toInt < d.toInt) ∧ x1.toInt ≤ x2.toInt)))) := by
  refine q_meti rfl (Nat.le_of_ble_eq_true rfl) (fun X hG hE => ?_)
  show q_O X 0 0 τ σ 0 [(0, .ref a0), (1, .int x1), (2, .int x2)] []
  obtain ⟨Fv, hF⟩ : ∃ z, fx_eq z (f_X7_isStretch (fx_N σ) a0 x1.toInt x2.toInt) := ⟨_, fx_rf⟩
  have hF0 := hF
  unfold f_X7_isStretch at hF
  obtain ⟨q_1v, q_1f, q_1r⟩ := (hI a0 6 1 tA0 0 (by decide)).int ff_6_0
  replace hF := fx_I hF q_1f rfl
  refine q_aload_n (pc := 0) hG dX7_isStretch_0 0 rfl ?_
  refine q_iload_n (pc := 1) hG dX7_isStretch_1 1 rfl ?_
  refine q_pV (pc := 2) [.int x1] [] hG (c_X7_isDot τ σ a0 x1 hI tA0) my_X7_isDot mv_X7_isDot w289 dX7_isStretch_2 tA0 (by decide) rfl rfl (Nat.le_of_ble_eq_true rfl) (by decide) (fun v2 p2 => ?_)
  replace hF := fx_E hF p2.2.1
  refine q_if_eq (pc := 5) hG 25 dX7_isStretch_5 rfl ?_ ?_
  · intro c5
    replace hF := fx_eq1 hF rfl rfl c5
    refine q_iconst (pc := 25) hG dX7_isStretch_25 ki_0 ?_
    have r_2 := q_zeq c5
    exact q_zrt hG hE dX7_isStretch_26 (q_r.mono rl_0 (by decide)) ⟨rfl, (q_r.mono rl_0 (by decide)), (by rw [tl_0]; exact fx_end hF hF0), (fun q => (by have o0 := (p2.2.2.2 q_1v q_1f); have o1 := c5; have o2 := q_1r; have o3 := r_2; have l4 := tl_0; have o5 := q; unfold q_r at o2 o3; omega)), (fun d e => by cases e.symm.trans q_1f; exact (by have o0 := (p2.2.2.2 q_1v q_1f); have o1 := c5; have o2 := q_1r; have o3 := r_2; have l4 := tl_0; unfold q_r at o2 o3; omega))⟩
  intro c5
  have g_3 := p2.2.2.1 (q_one p2.1 c5)
  have r_4 := q_rge (q_r_any x1) rl_0 (show (0 : Int32).toInt ≤ _ from g_3.1)
  replace hF := fx_eq2 hF rfl rfl c5
  refine q_aload_n (pc := 8) hG dX7_isStretch_8 0 rfl ?_
  refine q_iload_n (pc := 9) hG dX7_isStretch_9 2 rfl ?_
  refine q_pV (pc := 10) [.int x2] [] hG (c_X7_isDot τ σ a0 x2 hI tA0) my_X7_isDot mv_X7_isDot w289 dX7_isStretch_10 tA0 (by decide) rfl rfl (Nat.le_of_ble_eq_true rfl) (by decide) (fun v10 p10 => ?_)
  replace hF := fx_E hF p10.2.1
  refine q_if_eq (pc := 13) hG 25 dX7_isStretch_13 rfl ?_ ?_
  · intro c13
    replace hF := fx_eq1 hF rfl rfl c13
    refine q_iconst (pc := 25) hG dX7_isStretch_25 ki_0 ?_
    have r_5 := q_zeq c13
    have r_6 := q_neL (c := 1) p2.1 c5 (by decide)
    have r_7 := q_rle r_4 rl_63 (show _ ≤ (63 : Int32).toInt from g_3.2)
    exact q_zrt hG hE dX7_isStretch_26 (q_r.mono rl_0 (by decide)) ⟨rfl, (q_r.mono rl_0 (by decide)), (by rw [tl_0]; exact fx_end hF hF0), (fun q => (by have o0 := (p2.2.2.2 q_1v q_1f); have o1 := c5; have o2 := (show (0 : Int32).toInt ≤ _ from g_3.1); have o3 := (show _ ≤ (63 : Int32).toInt from g_3.2); have o4 := (p10.2.2.2 q_1v q_1f); have o5 := c13; have o6 := q_1r; have o7 := r_5; have o8 := r_6; have o9 := r_7; have l10 := tl_0; have l11 := tl_63; have o12 := q; unfold q_r at o6 o7 o8 o9; omega)), (fun d e => by cases e.symm.trans q_1f; exact (by have o0 := (p2.2.2.2 q_1v q_1f); have o1 := c5; have o2 := (show (0 : Int32).toInt ≤ _ from g_3.1); have o3 := (show _ ≤ (63 : Int32).toInt from g_3.2); have o4 := (p10.2.2.2 q_1v q_1f); have o5 := c13; have o6 := q_1r; have o7 := r_5; have o8 := r_6; have o9 := r_7; have l10 := tl_0; have l11 := tl_63; unfold q_r at o6 o7 o8 o9; omega))⟩
  intro c13
  have g_8 := p10.2.2.1 (q_one p10.1 c13)
  have r_9 := q_rge (q_r_any x2) rl_0 (show (0 : Int32).toInt ≤ _ from g_8.1)
  replace hF := fx_eq2 hF rfl rfl c13
  refine q_iload_n (pc := 16) hG dX7_isStretch_16 1 rfl ?_
  refine q_iload_n (pc := 17) hG dX7_isStretch_17 2 rfl ?_
  refine q_icmp_gt (pc := 18) hG 25 dX7_isStretch_18 rfl ?_ ?_
  · intro c18
    have r_10 := q_rle r_4 rl_63 (show _ ≤ (63 : Int32).toInt from g_3.2)
    have r_11 := q_rle r_9 rl_63 (show _ ≤ (63 : Int32).toInt from g_8.2)
    replace hF := fx_lt1 hF rfl rfl c18
    refine q_iconst (pc := 25) hG dX7_isStretch_25 ki_0 ?_
    have r_12 := q_neL (c := 1) p10.1 c13 (by decide)
    have r_13 := q_neL (c := 1) p2.1 c5 (by decide)
    have r_14 := q_rgt r_10 r_11 c18 1 (by decide)
    have r_15 := q_rlt r_11 r_10 c18 62 (by decide)
    exact q_zrt hG hE dX7_isStretch_26 (q_r.mono rl_0 (by decide)) ⟨rfl, (q_r.mono rl_0 (by decide)), (by rw [tl_0]; exact fx_end hF hF0), (fun q => (by have o0 := (p2.2.2.2 q_1v q_1f); have o1 := c5; have o2 := (show (0 : Int32).toInt ≤ _ from g_3.1); have o3 := (show _ ≤ (63 : Int32).toInt from g_3.2); have o4 := (p10.2.2.2 q_1v q_1f); have o5 := c13; have o6 := (show (0 : Int32).toInt ≤ _ from g_8.1); have o7 := (show _ ≤ (63 : Int32).toInt from g_8.2); have o8 := c18; have o9 := q_1r; have o10 := r_12; have o11 := r_13; have o12 := r_14; have o13 := r_15; have l14 := tl_0; have l15 := tl_63; have o16 := q; unfold q_r at o9 o10 o11 o12 o13; omega)), (fun d e => by cases e.symm.trans q_1f; exact (by have o0 := (p2.2.2.2 q_1v q_1f); have o1 := c5; have o2 := (show (0 : Int32).toInt ≤ _ from g_3.1); have o3 := (show _ ≤ (63 : Int32).toInt from g_3.2); have o4 := (p10.2.2.2 q_1v q_1f); have o5 := c13; have o6 := (show (0 : Int32).toInt ≤ _ from g_8.1); have o7 := (show _ ≤ (63 : Int32).toInt from g_8.2); have o8 := c18; have o9 := q_1r; have o10 := r_12; have o11 := r_13; have o12 := r_14; have o13 := r_15; have l14 := tl_0; have l15 := tl_63; unfold q_r at o9 o10 o11 o12 o13; omega))⟩
  intro c18
  have r_16 := q_rle r_4 rl_63 (show _ ≤ (63 : Int32).toInt from g_3.2)
  have r_17 := q_rle r_9 rl_63 (show _ ≤ (63 : Int32).toInt from g_8.2)
  replace hF := fx_lt2 hF rfl rfl c18
  refine q_iconst (pc := 21) hG dX7_isStretch_21 ki_1 ?_
  refine q_goto (pc := 22) 26 hG dX7_isStretch_22 rfl ?_
  have r_18 := q_neL (c := 1) p10.1 c13 (by decide)
  have r_19 := q_neL (c := 1) p2.1 c5 (by decide)
  exact q_zrt hG hE dX7_isStretch_26 (q_r.mono rl_1 (by decide)) ⟨rfl, (q_r.mono rl_1 (by decide)), (by rw [tl_1]; exact fx_end hF hF0), (fun q => (by have o0 := (p2.2.2.2 q_1v q_1f); have o1 := c5; have o2 := (show (0 : Int32).toInt ≤ _ from g_3.1); have o3 := (show _ ≤ (63 : Int32).toInt from g_3.2); have o4 := (p10.2.2.2 q_1v q_1f); have o5 := c13; have o6 := (show (0 : Int32).toInt ≤ _ from g_8.1); have o7 := (show _ ≤ (63 : Int32).toInt from g_8.2); have o8 := c18; have o9 := q_1r; have o10 := r_18; have o11 := r_19; have o12 := r_16; have o13 := r_17; have l14 := tl_0; have l15 := tl_1; have l16 := tl_63; have o17 := q; unfold q_r at o9 o10 o11 o12 o13; omega)), (fun d e => by cases e.symm.trans q_1f; exact (by have o0 := (p2.2.2.2 q_1v q_1f); have o1 := c5; have o2 := (show (0 : Int32).toInt ≤ _ from g_3.1); have o3 := (show _ ≤ (63 : Int32).toInt from g_3.2); have o4 := (p10.2.2.2 q_1v q_1f); have o5 := c13; have o6 := (show (0 : Int32).toInt ≤ _ from g_8.1); have o7 := (show _ ≤ (63 : Int32).toInt from g_8.2); have o8 := c18; have o9 := q_1r; have o10 := r_18; have o11 := r_19; have o12 := r_16; have o13 := r_17; have l14 := tl_0; have l15 := tl_1; have l16 := tl_63; unfold q_r at o9 o10 o11 o12 o13; omega))⟩
theorem dX7_isPainted_0 : decode cX7_isPainted 0 = .ok (.aload_n 0, 1) := by decide +kernel
theorem dX7_isPainted_1 : decode cX7_isPainted 1 = .ok (.getfield 28, 3) := by decide +kernel
theorem dX7_isPainted_4 : decode cX7_isPainted 4 = .ok (.iload_n 1, 1) := by decide +kernel
theorem dX7_isPainted_5 : decode cX7_isPainted 5 = .ok (.iaload, 1) := by decide +kernel
theorem dX7_isPainted_6 : decode cX7_isPainted 6 = .ok (.bipush (-100), 2) := by decide +kernel
theorem dX7_isPainted_8 : decode cX7_isPainted 8 = .ok (.if_icmp .eq 7, 3) := by decide +kernel
theorem dX7_isPainted_11 : decode cX7_isPainted 11 = .ok (.iconst 1, 1) := by decide +kernel
theorem dX7_isPainted_12 : decode cX7_isPainted 12 = .ok (.goto 4, 3) := by decide +kernel
theorem dX7_isPainted_15 : decode cX7_isPainted 15 = .ok (.iconst 0, 1) := by decide +kernel
theorem dX7_isPainted_16 : decode cX7_isPainted 16 = .ok (.ireturn, 1) := by decide +kernel
set_option maxRecDepth 100000 in
set_option maxHeartbeats 4000000 in
theorem c_X7_isPainted {l : Launch} {D : q_D} (τ : q_T) (σ : q_V) (a0 : Nat) (x1 : Int32) (hI : q_I τ σ) (tA0 : τ a0 = some (6, 1)) (rA1 : q_r x1 0 63) : q_Cp l D yX7_isPainted cX7_isPainted 2 (some .boolean) 0 0 τ σ [.ref a0, .int x1] (fun r => (q_r r 0 1) ∧ (r.toInt = f_X7_isPainted (fx_N σ) a0 x1.toInt)) := by
  refine q_meti rfl (Nat.le_of_ble_eq_true rfl) (fun X hG hE => ?_)
  show q_O X 0 0 τ σ 0 [(0, .ref a0), (1, .int x1)] []
  obtain ⟨Fv, hF⟩ : ∃ z, fx_eq z (f_X7_isPainted (fx_N σ) a0 x1.toInt) := ⟨_, fx_rf⟩
  have hF0 := hF
  unfold f_X7_isPainted at hF
  refine q_aload_n (pc := 0) hG dX7_isPainted_0 0 rfl ?_
  refine q_getR (pc := 1) (k2 := 120) (n2 := 64) hG fl_X7_28 dX7_isPainted_1 hI tA0 ff_6_5 (fun b1 f1 T1 => ?_)
  replace hF := fx_R hF f1 rfl
  refine q_iload_n (pc := 4) hG dX7_isPainted_4 1 rfl ?_
  refine q_iald (pc := 5) hG dX7_isPainted_5 hI ai_120 T1 (q_ix rA1 (by decide)) (fun v5 f5 g5 => ?_)
  replace hF := fx_I hF f5 rfl
  refine q_bipush (pc := 6) hG dX7_isPainted_6 kb_m100 ?_
  refine q_icmp_eq (pc := 8) hG 15 dX7_isPainted_8 rfl ?_ ?_
  · intro c8
    replace hF := fx_eq1 hF rfl tl_m100 c8
    refine q_iconst (pc := 15) hG dX7_isPainted_15 ki_0 ?_
    exact q_zrt hG hE dX7_isPainted_16 (q_r.mono rl_0 (by decide)) ⟨rfl, (q_r.mono rl_0 (by decide)), (by rw [tl_0]; exact fx_end hF hF0)⟩
  intro c8
  replace hF := fx_eq2 hF rfl tl_m100 c8
  refine q_iconst (pc := 11) hG dX7_isPainted_11 ki_1 ?_
  refine q_goto (pc := 12) 16 hG dX7_isPainted_12 rfl ?_
  exact q_zrt hG hE dX7_isPainted_16 (q_r.mono rl_1 (by decide)) ⟨rfl, (q_r.mono rl_1 (by decide)), (by rw [tl_1]; exact fx_end hF hF0)⟩
theorem dX7_isSpoilt_0 : decode cX7_isSpoilt 0 = .ok (.aload_n 0, 1) := by decide +kernel
theorem dX7_isSpoilt_1 : decode cX7_isSpoilt 1 = .ok (.getfield 37, 3) := by decide +kernel
theorem dX7_isSpoilt_4 : decode cX7_isSpoilt 4 = .ok (.iload_n 1, 1) := by decide +kernel
theorem dX7_isSpoilt_5 : decode cX7_isSpoilt 5 = .ok (.iaload, 1) := by decide +kernel
theorem dX7_isSpoilt_6 : decode cX7_isSpoilt 6 = .ok (.bipush (-2), 2) := by decide +kernel
theorem dX7_isSpoilt_8 : decode cX7_isSpoilt 8 = .ok (.if_icmp .eq 7, 3) := by decide +kernel
theorem dX7_isSpoilt_11 : decode cX7_isSpoilt 11 = .ok (.iconst 1, 1) := by decide +kernel
theorem dX7_isSpoilt_12 : decode cX7_isSpoilt 12 = .ok (.goto 4, 3) := by decide +kernel
theorem dX7_isSpoilt_15 : decode cX7_isSpoilt 15 = .ok (.iconst 0, 1) := by decide +kernel
theorem dX7_isSpoilt_16 : decode cX7_isSpoilt 16 = .ok (.ireturn, 1) := by decide +kernel
set_option maxRecDepth 100000 in
set_option maxHeartbeats 4000000 in
theorem c_X7_isSpoilt {l : Launch} {D : q_D} (τ : q_T) (σ : q_V) (a0 : Nat) (x1 : Int32) (hI : q_I τ σ) (tA0 : τ a0 = some (6, 1)) (rA1 : q_r x1 0 63) : q_Cp l D yX7_isSpoilt cX7_isSpoilt 2 (some .boolean) 0 0 τ σ [.ref a0, .int x1] (fun r => (q_r r 0 1) ∧ (r.toInt = f_X7_isSpoilt (fx_N σ) a0 x1.toInt)) := by
  refine q_meti rfl (Nat.le_of_ble_eq_true rfl) (fun X hG hE => ?_)
  show q_O X 0 0 τ σ 0 [(0, .ref a0), (1, .int x1)] []
  obtain ⟨Fv, hF⟩ : ∃ z, fx_eq z (f_X7_isSpoilt (fx_N σ) a0 x1.toInt) := ⟨_, fx_rf⟩
  have hF0 := hF
  unfold f_X7_isSpoilt at hF
  refine q_aload_n (pc := 0) hG dX7_isSpoilt_0 0 rfl ?_
  refine q_getR (pc := 1) (k2 := 123) (n2 := 64) hG fl_X7_37 dX7_isSpoilt_1 hI tA0 ff_6_8 (fun b1 f1 T1 => ?_)
  replace hF := fx_R hF f1 rfl
  refine q_iload_n (pc := 4) hG dX7_isSpoilt_4 1 rfl ?_
  refine q_iald (pc := 5) hG dX7_isSpoilt_5 hI ai_123 T1 (q_ix rA1 (by decide)) (fun v5 f5 g5 => ?_)
  replace hF := fx_I hF f5 rfl
  refine q_bipush (pc := 6) hG dX7_isSpoilt_6 kb_m2 ?_
  refine q_icmp_eq (pc := 8) hG 15 dX7_isSpoilt_8 rfl ?_ ?_
  · intro c8
    replace hF := fx_eq1 hF rfl tl_m2 c8
    refine q_iconst (pc := 15) hG dX7_isSpoilt_15 ki_0 ?_
    exact q_zrt hG hE dX7_isSpoilt_16 (q_r.mono rl_0 (by decide)) ⟨rfl, (q_r.mono rl_0 (by decide)), (by rw [tl_0]; exact fx_end hF hF0)⟩
  intro c8
  replace hF := fx_eq2 hF rfl tl_m2 c8
  refine q_iconst (pc := 11) hG dX7_isSpoilt_11 ki_1 ?_
  refine q_goto (pc := 12) 16 hG dX7_isSpoilt_12 rfl ?_
  exact q_zrt hG hE dX7_isSpoilt_16 (q_r.mono rl_1 (by decide)) ⟨rfl, (q_r.mono rl_1 (by decide)), (by rw [tl_1]; exact fx_end hF hF0)⟩
theorem dX7_isWet_0 : decode cX7_isWet 0 = .ok (.aload_n 0, 1) := by decide +kernel
theorem dX7_isWet_1 : decode cX7_isWet 1 = .ok (.iload_n 1, 1) := by decide +kernel
theorem dX7_isWet_2 : decode cX7_isWet 2 = .ok (.invokevirtual 85, 3) := by decide +kernel
theorem dX7_isWet_5 : decode cX7_isWet 5 = .ok (.ifCond .eq 27, 3) := by decide +kernel
theorem dX7_isWet_8 : decode cX7_isWet 8 = .ok (.aload_n 0, 1) := by decide +kernel
theorem dX7_isWet_9 : decode cX7_isWet 9 = .ok (.getfield 65, 3) := by decide +kernel
theorem dX7_isWet_12 : decode cX7_isWet 12 = .ok (.aload_n 0, 1) := by decide +kernel
theorem dX7_isWet_13 : decode cX7_isWet 13 = .ok (.getfield 31, 3) := by decide +kernel
theorem dX7_isWet_16 : decode cX7_isWet 16 = .ok (.iload_n 1, 1) := by decide +kernel
theorem dX7_isWet_17 : decode cX7_isWet 17 = .ok (.iaload, 1) := by decide +kernel
theorem dX7_isWet_18 : decode cX7_isWet 18 = .ok (.isub, 1) := by decide +kernel
theorem dX7_isWet_19 : decode cX7_isWet 19 = .ok (.aload_n 0, 1) := by decide +kernel
theorem dX7_isWet_20 : decode cX7_isWet 20 = .ok (.getfield 34, 3) := by decide +kernel
theorem dX7_isWet_23 : decode cX7_isWet 23 = .ok (.iload_n 1, 1) := by decide +kernel
theorem dX7_isWet_24 : decode cX7_isWet 24 = .ok (.iaload, 1) := by decide +kernel
theorem dX7_isWet_25 : decode cX7_isWet 25 = .ok (.if_icmp .ge 7, 3) := by decide +kernel
theorem dX7_isWet_28 : decode cX7_isWet 28 = .ok (.iconst 1, 1) := by decide +kernel
theorem dX7_isWet_29 : decode cX7_isWet 29 = .ok (.goto 4, 3) := by decide +kernel
theorem dX7_isWet_32 : decode cX7_isWet 32 = .ok (.iconst 0, 1) := by decide +kernel
theorem dX7_isWet_33 : decode cX7_isWet 33 = .ok (.ireturn, 1) := by decide +kernel
set_option maxRecDepth 100000 in
set_option maxHeartbeats 4000000 in
theorem c_X7_isWet {l : Launch} {D : q_D} (τ : q_T) (σ : q_V) (a0 : Nat) (x1 : Int32) (hI : q_I τ σ) (tA0 : τ a0 = some (6, 1)) (rA1 : q_r x1 0 63) : q_Cp l D yX7_isWet cX7_isWet 2 (some .boolean) 1 21 τ σ [.ref a0, .int x1] (fun r => (q_r r 0 1) ∧ (r.toInt = f_X7_isWet (fx_N σ) a0 x1.toInt)) := by
  refine q_meti rfl (Nat.le_of_ble_eq_true rfl) (fun X hG hE => ?_)
  show q_O X 0 0 τ σ 0 [(0, .ref a0), (1, .int x1)] []
  obtain ⟨Fv, hF⟩ : ∃ z, fx_eq z (f_X7_isWet (fx_N σ) a0 x1.toInt) := ⟨_, fx_rf⟩
  have hF0 := hF
  unfold f_X7_isWet at hF
  refine q_aload_n (pc := 0) hG dX7_isWet_0 0 rfl ?_
  refine q_iload_n (pc := 1) hG dX7_isWet_1 1 rfl ?_
  refine q_pV (pc := 2) [.int x1] [] hG (c_X7_isPainted τ σ a0 x1 hI tA0 rA1) my_X7_isPainted mv_X7_isPainted w410 dX7_isWet_2 tA0 (by decide) rfl rfl (Nat.le_of_ble_eq_true rfl) (by decide) (fun v2 p2 => ?_)
  replace hF := fx_E hF p2.2
  refine q_if_eq (pc := 5) hG 32 dX7_isWet_5 rfl ?_ ?_
  · intro c5
    replace hF := fx_eq1 hF rfl rfl c5
    refine q_iconst (pc := 32) hG dX7_isWet_32 ki_0 ?_
    exact q_zrt hG hE dX7_isWet_33 (q_r.mono rl_0 (by decide)) ⟨rfl, (q_r.mono rl_0 (by decide)), (by rw [tl_0]; exact fx_end hF hF0)⟩
  intro c5
  replace hF := fx_eq2 hF rfl rfl c5
  refine q_aload_n (pc := 8) hG dX7_isWet_8 0 rfl ?_
  refine q_getI (pc := 9) hG fl_X7_65 dX7_isWet_9 hI tA0 ff_6_17 (fun v9 f9 g9 => ?_)
  replace hF := fx_I hF f9 rfl
  refine q_aload_n (pc := 12) hG dX7_isWet_12 0 rfl ?_
  refine q_getR (pc := 13) (k2 := 121) (n2 := 64) hG fl_X7_31 dX7_isWet_13 hI tA0 ff_6_6 (fun b13 f13 T13 => ?_)
  replace hF := fx_R hF f13 rfl
  refine q_iload_n (pc := 16) hG dX7_isWet_16 1 rfl ?_
  refine q_iald (pc := 17) hG dX7_isWet_17 hI ai_121 T13 (q_ix rA1 (by decide)) (fun v17 f17 g17 => ?_)
  replace hF := fx_I hF f17 rfl
  refine q_isub (pc := 18) hG dX7_isWet_18 (fun v18 e18 => ?_)
  replace hF := fx_B_sub hF rfl rfl e18
  refine q_aload_n (pc := 19) hG dX7_isWet_19 0 rfl ?_
  refine q_getR (pc := 20) (k2 := 122) (n2 := 64) hG fl_X7_34 dX7_isWet_20 hI tA0 ff_6_7 (fun b20 f20 T20 => ?_)
  replace hF := fx_R hF f20 rfl
  refine q_iload_n (pc := 23) hG dX7_isWet_23 1 rfl ?_
  refine q_iald (pc := 24) hG dX7_isWet_24 hI ai_122 T20 (q_ix rA1 (by decide)) (fun v24 f24 g24 => ?_)
  replace hF := fx_I hF f24 rfl
  refine q_icmp_ge (pc := 25) hG 32 dX7_isWet_25 rfl ?_ ?_
  · intro c25
    replace hF := fx_lt2 hF rfl rfl c25
    refine q_iconst (pc := 32) hG dX7_isWet_32 ki_0 ?_
    exact q_zrt hG hE dX7_isWet_33 (q_r.mono rl_0 (by decide)) ⟨rfl, (q_r.mono rl_0 (by decide)), (by rw [tl_0]; exact fx_end hF hF0)⟩
  intro c25
  replace hF := fx_lt1 hF rfl rfl c25
  refine q_iconst (pc := 28) hG dX7_isWet_28 ki_1 ?_
  refine q_goto (pc := 29) 33 hG dX7_isWet_29 rfl ?_
  exact q_zrt hG hE dX7_isWet_33 (q_r.mono rl_1 (by decide)) ⟨rfl, (q_r.mono rl_1 (by decide)), (by rw [tl_1]; exact fx_end hF hF0)⟩
theorem dX7_painterOf_0 : decode cX7_painterOf 0 = .ok (.iconst 0, 1) := by decide +kernel
theorem dX7_painterOf_1 : decode cX7_painterOf 1 = .ok (.istore_n 2, 1) := by decide +kernel
theorem dX7_painterOf_2 : decode cX7_painterOf 2 = .ok (.iload_n 2, 1) := by decide +kernel
theorem dX7_painterOf_3 : decode cX7_painterOf 3 = .ok (.iconst 2, 1) := by decide +kernel
theorem dX7_painterOf_4 : decode cX7_painterOf 4 = .ok (.if_icmp .ge 21, 3) := by decide +kernel
theorem dX7_painterOf_7 : decode cX7_painterOf 7 = .ok (.aload_n 0, 1) := by decide +kernel
theorem dX7_painterOf_8 : decode cX7_painterOf 8 = .ok (.getfield 44, 3) := by decide +kernel
theorem dX7_painterOf_11 : decode cX7_painterOf 11 = .ok (.iload_n 2, 1) := by decide +kernel
theorem dX7_painterOf_12 : decode cX7_painterOf 12 = .ok (.iaload, 1) := by decide +kernel
theorem dX7_painterOf_13 : decode cX7_painterOf 13 = .ok (.iload_n 1, 1) := by decide +kernel
theorem dX7_painterOf_14 : decode cX7_painterOf 14 = .ok (.if_icmp .ne 5, 3) := by decide +kernel
theorem dX7_painterOf_17 : decode cX7_painterOf 17 = .ok (.iload_n 2, 1) := by decide +kernel
theorem dX7_painterOf_18 : decode cX7_painterOf 18 = .ok (.ireturn, 1) := by decide +kernel
theorem dX7_painterOf_19 : decode cX7_painterOf 19 = .ok (.iinc 2 1, 3) := by decide +kernel
theorem dX7_painterOf_22 : decode cX7_painterOf 22 = .ok (.goto (-20), 3) := by decide +kernel
theorem dX7_painterOf_25 : decode cX7_painterOf 25 = .ok (.bipush (-2), 2) := by decide +kernel
theorem dX7_painterOf_27 : decode cX7_painterOf 27 = .ok (.ireturn, 1) := by decide +kernel
set_option maxRecDepth 100000 in
set_option maxHeartbeats 4000000 in
theorem c_X7_painterOf {l : Launch} {D : q_D} (τ : q_T) (σ : q_V) (a0 : Nat) (x1 : Int32) (hI : q_I τ σ) (tA0 : τ a0 = some (6, 1)) : q_Cp l D yX7_painterOf cX7_painterOf 3 (some .int) 0 0 τ σ [.ref a0, .int x1] (fun r => (q_r r (-2) 1) ∧ (r.toInt = f_X7_painterOf (fx_N σ) a0 x1.toInt)) := by
  refine q_meti rfl (Nat.le_of_ble_eq_true rfl) (fun X hG hE => ?_)
  show q_O X 0 0 τ σ 0 [(0, .ref a0), (1, .int x1)] []
  obtain ⟨Fv, hF⟩ : ∃ z, fx_eq z (f_X7_painterOf (fx_N σ) a0 x1.toInt) := ⟨_, fx_rf⟩
  have hF0 := hF
  unfold f_X7_painterOf at hF
  refine q_iconst (pc := 0) hG dX7_painterOf_0 ki_0 ?_
  refine q_istore_n (pc := 1) [(2, .int 0), (0, .ref a0), (1, .int x1)] hG dX7_painterOf_1 (by decide) rfl ?_
  have J2 : ∀ (n2 : Nat) (p2_2 : Int32), (q_r p2_2 0 2) → (fx_eq Fv (kL_X7_painterOf_2 (fx_N σ) a0 x1.toInt n2 p2_2.toInt)) → ((2 - p2_2.toInt).toNat < n2) → q_O X 0 0 τ σ 2 [(0, .ref a0), (1, .int x1), (2, .int p2_2)] [] := by
    intro n2
    induction n2 with
    | zero => intro p2_2 r2_2 hF hm2; exact absurd hm2 (Nat.not_lt_zero _)
    | succ n2 ih2 =>
      intro p2_2 r2_2 hF hm2
      replace hF := (show fx_eq Fv (kB_X7_painterOf_2 (kL_X7_painterOf_2 (fx_N σ) a0 x1.toInt n2) (fx_N σ) a0 x1.toInt p2_2.toInt) from hF)
      unfold kB_X7_painterOf_2 at hF
      refine q_iload_n (pc := 2) hG dX7_painterOf_2 2 rfl ?_
      refine q_iconst (pc := 3) hG dX7_painterOf_3 ki_2 ?_
      refine q_icmp_ge (pc := 4) hG 25 dX7_painterOf_4 rfl ?_ ?_
      · intro c4
        replace hF := fx_lt2 hF rfl tl_2 c4
        refine q_bipush (pc := 25) hG dX7_painterOf_25 kb_m2 ?_
        exact q_irt hG hE dX7_painterOf_27 ⟨rfl, (q_r.mono rl_m2 (by decide)), (by rw [tl_m2]; exact fx_end hF hF0)⟩
      intro c4
      replace hF := fx_lt1 hF rfl tl_2 c4
      refine q_aload_n (pc := 7) hG dX7_painterOf_7 0 rfl ?_
      refine q_getR (pc := 8) (k2 := 124) (n2 := 2) hG fl_X7_44 dX7_painterOf_8 hI tA0 ff_6_10 (fun b8 f8 T8 => ?_)
      replace hF := fx_R hF f8 rfl
      refine q_iload_n (pc := 11) hG dX7_painterOf_11 2 rfl ?_
      have r_1 := q_rlt r2_2 rl_2 c4 1 (by decide)
      refine q_iald (pc := 12) hG dX7_painterOf_12 hI ai_124 T8 (q_ix r_1 (by decide)) (fun v12 f12 g12 => ?_)
      replace hF := fx_I hF f12 rfl
      refine q_iload_n (pc := 13) hG dX7_painterOf_13 1 rfl ?_
      refine q_icmp_ne (pc := 14) hG 19 dX7_painterOf_14 rfl ?_ ?_
      · intro c14
        replace hF := fx_eq2 hF rfl rfl c14
        obtain ⟨v19, e19⟩ : ∃ z : Int32, z = p2_2 + Int32.ofInt 1 := ⟨_, rfl⟩
        have h19 := q_incN (lo := 1) (hi := 2) r_1 (by decide) (by decide) e19
        replace hF := fx_add hF rfl rfl h19.1
        refine q_iinc (pc := 19) [(2, .int v19), (0, .ref a0), (1, .int x1)] hG dX7_painterOf_19 2 rfl e19 (by decide) rfl ?_
        refine q_goto (pc := 22) 2 hG dX7_painterOf_22 rfl ?_
        refine q_lv [1, 2, 0] rfl ?_
        exact ih2 v19 (q_r.mono h19.2 (by decide)) hF (q_measU hm2 (by have o0 := c4; have o1 := h19.1; have o2 := r_1; have o3 := h19.2; have l4 := tl_2; unfold q_r at o2 o3; omega) (h19.2).2)
      intro c14
      replace hF := fx_eq1 hF rfl rfl c14
      refine q_iload_n (pc := 17) hG dX7_painterOf_17 2 rfl ?_
      exact q_irt hG hE dX7_painterOf_18 ⟨rfl, (q_r.mono r_1 (by decide)), (fx_end hF hF0)⟩
  refine q_lv [1, 2, 0] rfl ?_
  exact J2 ((2 - (0 : Int32).toInt).toNat + 1) 0 (q_r.mono rl_0 (by decide)) (by rw [tl_0]; exact hF) (Nat.lt_succ_self _)
theorem dX7_isBeingPainted_0 : decode cX7_isBeingPainted 0 = .ok (.aload_n 0, 1) := by decide +kernel
theorem dX7_isBeingPainted_1 : decode cX7_isBeingPainted 1 = .ok (.iload_n 1, 1) := by decide +kernel
theorem dX7_isBeingPainted_2 : decode cX7_isBeingPainted 2 = .ok (.invokevirtual 88, 3) := by decide +kernel
theorem dX7_isBeingPainted_5 : decode cX7_isBeingPainted 5 = .ok (.bipush (-2), 2) := by decide +kernel
theorem dX7_isBeingPainted_7 : decode cX7_isBeingPainted 7 = .ok (.if_icmp .eq 7, 3) := by decide +kernel
theorem dX7_isBeingPainted_10 : decode cX7_isBeingPainted 10 = .ok (.iconst 1, 1) := by decide +kernel
theorem dX7_isBeingPainted_11 : decode cX7_isBeingPainted 11 = .ok (.goto 4, 3) := by decide +kernel
theorem dX7_isBeingPainted_14 : decode cX7_isBeingPainted 14 = .ok (.iconst 0, 1) := by decide +kernel
theorem dX7_isBeingPainted_15 : decode cX7_isBeingPainted 15 = .ok (.ireturn, 1) := by decide +kernel
set_option maxRecDepth 100000 in
set_option maxHeartbeats 4000000 in
theorem c_X7_isBeingPainted {l : Launch} {D : q_D} (τ : q_T) (σ : q_V) (a0 : Nat) (x1 : Int32) (hI : q_I τ σ) (tA0 : τ a0 = some (6, 1)) : q_Cp l D yX7_isBeingPainted cX7_isBeingPainted 2 (some .boolean) 1 22 τ σ [.ref a0, .int x1] (fun r => (q_r r 0 1) ∧ (r.toInt = f_X7_isBeingPainted (fx_N σ) a0 x1.toInt)) := by
  refine q_meti rfl (Nat.le_of_ble_eq_true rfl) (fun X hG hE => ?_)
  show q_O X 0 0 τ σ 0 [(0, .ref a0), (1, .int x1)] []
  obtain ⟨Fv, hF⟩ : ∃ z, fx_eq z (f_X7_isBeingPainted (fx_N σ) a0 x1.toInt) := ⟨_, fx_rf⟩
  have hF0 := hF
  unfold f_X7_isBeingPainted at hF
  refine q_aload_n (pc := 0) hG dX7_isBeingPainted_0 0 rfl ?_
  refine q_iload_n (pc := 1) hG dX7_isBeingPainted_1 1 rfl ?_
  refine q_pV (pc := 2) [.int x1] [] hG (c_X7_painterOf τ σ a0 x1 hI tA0) my_X7_painterOf mv_X7_painterOf w415 dX7_isBeingPainted_2 tA0 (by decide) rfl rfl (Nat.le_of_ble_eq_true rfl) (by decide) (fun v2 p2 => ?_)
  replace hF := fx_E hF p2.2
  refine q_bipush (pc := 5) hG dX7_isBeingPainted_5 kb_m2 ?_
  refine q_icmp_eq (pc := 7) hG 14 dX7_isBeingPainted_7 rfl ?_ ?_
  · intro c7
    replace hF := fx_eq1 hF rfl tl_m2 c7
    refine q_iconst (pc := 14) hG dX7_isBeingPainted_14 ki_0 ?_
    exact q_zrt hG hE dX7_isBeingPainted_15 (q_r.mono rl_0 (by decide)) ⟨rfl, (q_r.mono rl_0 (by decide)), (by rw [tl_0]; exact fx_end hF hF0)⟩
  intro c7
  replace hF := fx_eq2 hF rfl tl_m2 c7
  refine q_iconst (pc := 10) hG dX7_isBeingPainted_10 ki_1 ?_
  refine q_goto (pc := 11) 15 hG dX7_isBeingPainted_11 rfl ?_
  exact q_zrt hG hE dX7_isBeingPainted_15 (q_r.mono rl_1 (by decide)) ⟨rfl, (q_r.mono rl_1 (by decide)), (by rw [tl_1]; exact fx_end hF hF0)⟩
theorem dX7_makeBare_0 : decode cX7_makeBare 0 = .ok (.aload_n 0, 1) := by decide +kernel
theorem dX7_makeBare_1 : decode cX7_makeBare 1 = .ok (.getfield 28, 3) := by decide +kernel
theorem dX7_makeBare_4 : decode cX7_makeBare 4 = .ok (.iload_n 1, 1) := by decide +kernel
theorem dX7_makeBare_5 : decode cX7_makeBare 5 = .ok (.bipush (-100), 2) := by decide +kernel
theorem dX7_makeBare_7 : decode cX7_makeBare 7 = .ok (.iastore, 1) := by decide +kernel
theorem dX7_makeBare_8 : decode cX7_makeBare 8 = .ok (.aload_n 0, 1) := by decide +kernel
theorem dX7_makeBare_9 : decode cX7_makeBare 9 = .ok (.getfield 31, 3) := by decide +kernel
theorem dX7_makeBare_12 : decode cX7_makeBare 12 = .ok (.iload_n 1, 1) := by decide +kernel
theorem dX7_makeBare_13 : decode cX7_makeBare 13 = .ok (.bipush (-2), 2) := by decide +kernel
theorem dX7_makeBare_15 : decode cX7_makeBare 15 = .ok (.iastore, 1) := by decide +kernel
theorem dX7_makeBare_16 : decode cX7_makeBare 16 = .ok (.aload_n 0, 1) := by decide +kernel
theorem dX7_makeBare_17 : decode cX7_makeBare 17 = .ok (.getfield 34, 3) := by decide +kernel
theorem dX7_makeBare_20 : decode cX7_makeBare 20 = .ok (.iload_n 1, 1) := by decide +kernel
theorem dX7_makeBare_21 : decode cX7_makeBare 21 = .ok (.iconst 0, 1) := by decide +kernel
theorem dX7_makeBare_22 : decode cX7_makeBare 22 = .ok (.iastore, 1) := by decide +kernel
theorem dX7_makeBare_23 : decode cX7_makeBare 23 = .ok (.aload_n 0, 1) := by decide +kernel
theorem dX7_makeBare_24 : decode cX7_makeBare 24 = .ok (.getfield 37, 3) := by decide +kernel
theorem dX7_makeBare_27 : decode cX7_makeBare 27 = .ok (.iload_n 1, 1) := by decide +kernel
theorem dX7_makeBare_28 : decode cX7_makeBare 28 = .ok (.bipush (-2), 2) := by decide +kernel
theorem dX7_makeBare_30 : decode cX7_makeBare 30 = .ok (.iastore, 1) := by decide +kernel
theorem dX7_makeBare_31 : decode cX7_makeBare 31 = .ok (.iconst 0, 1) := by decide +kernel
theorem dX7_makeBare_32 : decode cX7_makeBare 32 = .ok (.istore_n 2, 1) := by decide +kernel
theorem dX7_makeBare_33 : decode cX7_makeBare 33 = .ok (.iload_n 2, 1) := by decide +kernel
theorem dX7_makeBare_34 : decode cX7_makeBare 34 = .ok (.iconst 2, 1) := by decide +kernel
theorem dX7_makeBare_35 : decode cX7_makeBare 35 = .ok (.if_icmp .ge 27, 3) := by decide +kernel
theorem dX7_makeBare_38 : decode cX7_makeBare 38 = .ok (.aload_n 0, 1) := by decide +kernel
theorem dX7_makeBare_39 : decode cX7_makeBare 39 = .ok (.getfield 44, 3) := by decide +kernel
theorem dX7_makeBare_42 : decode cX7_makeBare 42 = .ok (.iload_n 2, 1) := by decide +kernel
theorem dX7_makeBare_43 : decode cX7_makeBare 43 = .ok (.iaload, 1) := by decide +kernel
theorem dX7_makeBare_44 : decode cX7_makeBare 44 = .ok (.iload_n 1, 1) := by decide +kernel
theorem dX7_makeBare_45 : decode cX7_makeBare 45 = .ok (.if_icmp .ne 11, 3) := by decide +kernel
theorem dX7_makeBare_48 : decode cX7_makeBare 48 = .ok (.aload_n 0, 1) := by decide +kernel
theorem dX7_makeBare_49 : decode cX7_makeBare 49 = .ok (.getfield 44, 3) := by decide +kernel
theorem dX7_makeBare_52 : decode cX7_makeBare 52 = .ok (.iload_n 2, 1) := by decide +kernel
theorem dX7_makeBare_53 : decode cX7_makeBare 53 = .ok (.bipush (-2), 2) := by decide +kernel
theorem dX7_makeBare_55 : decode cX7_makeBare 55 = .ok (.iastore, 1) := by decide +kernel
theorem dX7_makeBare_56 : decode cX7_makeBare 56 = .ok (.iinc 2 1, 3) := by decide +kernel
theorem dX7_makeBare_59 : decode cX7_makeBare 59 = .ok (.goto (-26), 3) := by decide +kernel
theorem dX7_makeBare_62 : decode cX7_makeBare 62 = .ok (.return_, 1) := by decide +kernel
def md_X7_makeBare : List (Nat × Nat) := [(120, 0), (121, 0), (122, 0), (123, 0), (124, 0)]
set_option maxRecDepth 100000 in
set_option maxHeartbeats 4000000 in
theorem c_X7_makeBare {l : Launch} {D : q_D} (τ : q_T) (σ : q_V) (a0 : Nat) (x1 : Int32) (hI : q_I τ σ) (tA0 : τ a0 = some (6, 1)) (rA1 : q_r x1 0 63) : q_Cv l D yX7_makeBare cX7_makeBare 3 none 0 0 τ σ [.ref a0, .int x1] (fun σ1 => q_S md_X7_makeBare τ σ σ1 ∧ (fx_N σ1 = f_X7_makeBare (fx_N σ) a0 x1.toInt)) := by
  refine q_metv rfl (Nat.le_of_ble_eq_true rfl) (fun X hG hE => ?_)
  show q_O X 0 0 τ σ 0 [(0, .ref a0), (1, .int x1)] []
  have hS0 : q_S md_X7_makeBare τ σ σ := q_S.rf hI
  obtain ⟨Fv, hF⟩ : ∃ z, fx_eq z (f_X7_makeBare (fx_N σ) a0 x1.toInt) := ⟨_, fx_rf⟩
  have hF0 := hF
  unfold f_X7_makeBare at hF
  refine q_aload_n (pc := 0) hG dX7_makeBare_0 0 rfl ?_
  refine q_getR (pc := 1) (k2 := 120) (n2 := 64) hG fl_X7_28 dX7_makeBare_1 hI tA0 ff_6_5 (fun b1 f1 T1 => ?_)
  replace hF := fx_R hF f1 rfl
  refine q_iload_n (pc := 4) hG dX7_makeBare_4 1 rfl ?_
  refine q_bipush (pc := 5) hG dX7_makeBare_5 kb_m100 ?_
  refine q_iast (pc := 7) hG dX7_makeBare_7 hS0 ai_120 T1 (q_ix rA1 (by decide)) rl_m100 (by decide) rfl (fun s7 u7 w7 => ?_)
  replace hF := fx_P hF u7 rfl tl_m100
  have m7 : s7 b1 x1.toInt.toNat = .int (-100) := by rw [u7]; exact q_up_same
  refine q_aload_n (pc := 8) hG dX7_makeBare_8 0 rfl ?_
  refine q_getR (pc := 9) (k2 := 121) (n2 := 64) hG fl_X7_31 dX7_makeBare_9 w7.1 tA0 ff_6_6 (fun b9 f9 T9 => ?_)
  replace hF := fx_R hF f9 rfl
  have f_1 := (w7.2 _ _ _ _ tA0 rfl).symm.trans f9
  refine q_iload_n (pc := 12) hG dX7_makeBare_12 1 rfl ?_
  refine q_bipush (pc := 13) hG dX7_makeBare_13 kb_m2 ?_
  refine q_iast (pc := 15) hG dX7_makeBare_15 w7 ai_121 T9 (q_ix rA1 (by decide)) rl_m2 (by decide) rfl (fun s15 u15 w15 => ?_)
  replace hF := fx_P hF u15 rfl tl_m2
  have m15 : s15 b9 x1.toInt.toNat = .int (-2) := by rw [u15]; exact q_up_same
  refine q_aload_n (pc := 16) hG dX7_makeBare_16 0 rfl ?_
  refine q_getR (pc := 17) (k2 := 122) (n2 := 64) hG fl_X7_34 dX7_makeBare_17 w15.1 tA0 ff_6_7 (fun b17 f17 T17 => ?_)
  replace hF := fx_R hF f17 rfl
  have f_2 := (w15.2 _ _ _ _ tA0 rfl).symm.trans f17
  refine q_iload_n (pc := 20) hG dX7_makeBare_20 1 rfl ?_
  refine q_iconst (pc := 21) hG dX7_makeBare_21 ki_0 ?_
  refine q_iast (pc := 22) hG dX7_makeBare_22 w15 ai_122 T17 (q_ix rA1 (by decide)) rl_0 (by decide) rfl (fun s22 u22 w22 => ?_)
  replace hF := fx_P hF u22 rfl tl_0
  have m22 : s22 b17 x1.toInt.toNat = .int 0 := by rw [u22]; exact q_up_same
  refine q_aload_n (pc := 23) hG dX7_makeBare_23 0 rfl ?_
  refine q_getR (pc := 24) (k2 := 123) (n2 := 64) hG fl_X7_37 dX7_makeBare_24 w22.1 tA0 ff_6_8 (fun b24 f24 T24 => ?_)
  replace hF := fx_R hF f24 rfl
  have f_3 := (w22.2 _ _ _ _ tA0 rfl).symm.trans f24
  refine q_iload_n (pc := 27) hG dX7_makeBare_27 1 rfl ?_
  refine q_bipush (pc := 28) hG dX7_makeBare_28 kb_m2 ?_
  refine q_iast (pc := 30) hG dX7_makeBare_30 w22 ai_123 T24 (q_ix rA1 (by decide)) rl_m2 (by decide) rfl (fun s30 u30 w30 => ?_)
  replace hF := fx_P hF u30 rfl tl_m2
  have m30 : s30 b24 x1.toInt.toNat = .int (-2) := by rw [u30]; exact q_up_same
  refine q_iconst (pc := 31) hG dX7_makeBare_31 ki_0 ?_
  refine q_istore_n (pc := 32) [(2, .int 0), (0, .ref a0), (1, .int x1)] hG dX7_makeBare_32 (by decide) rfl ?_
  have J33 : ∀ (n33 : Nat) (p33_2 : Int32) (σ33 : q_V), (q_r p33_2 0 2) → (q_S md_X7_makeBare τ σ σ33) → (fx_eq Fv (kL_X7_makeBare_33 a0 x1.toInt n33 p33_2.toInt (fx_N σ33))) → ((2 - p33_2.toInt).toNat < n33) → q_O X 0 0 τ σ33 33 [(0, .ref a0), (1, .int x1), (2, .int p33_2)] [] := by
    intro n33
    induction n33 with
    | zero => intro p33_2 σ33 r33_2 hS33 hF hm33; exact absurd hm33 (Nat.not_lt_zero _)
    | succ n33 ih33 =>
      intro p33_2 σ33 r33_2 hS33 hF hm33
      replace hF := (show fx_eq Fv (kB_X7_makeBare_33 (kL_X7_makeBare_33 a0 x1.toInt n33) a0 x1.toInt p33_2.toInt (fx_N σ33)) from hF)
      unfold kB_X7_makeBare_33 at hF
      refine q_iload_n (pc := 33) hG dX7_makeBare_33 2 rfl ?_
      refine q_iconst (pc := 34) hG dX7_makeBare_34 ki_2 ?_
      refine q_icmp_ge (pc := 35) hG 62 dX7_makeBare_35 rfl ?_ ?_
      · intro c35
        replace hF := fx_lt2 hF rfl tl_2 c35
        exact q_vrt hG hE dX7_makeBare_62 ⟨hS33, (fx_end hF hF0)⟩
      intro c35
      replace hF := fx_lt1 hF rfl tl_2 c35
      refine q_aload_n (pc := 38) hG dX7_makeBare_38 0 rfl ?_
      refine q_getR (pc := 39) (k2 := 124) (n2 := 2) hG fl_X7_44 dX7_makeBare_39 hS33.1 tA0 ff_6_10 (fun b39 f39 T39 => ?_)
      replace hF := fx_R hF f39 rfl
      have f_4 := (hS33.2 _ _ _ _ tA0 rfl).symm.trans f39
      refine q_iload_n (pc := 42) hG dX7_makeBare_42 2 rfl ?_
      have r_5 := q_rlt r33_2 rl_2 c35 1 (by decide)
      refine q_iald (pc := 43) hG dX7_makeBare_43 hS33.1 ai_124 T39 (q_ix r_5 (by decide)) (fun v43 f43 g43 => ?_)
      replace hF := fx_I hF f43 rfl
      refine q_iload_n (pc := 44) hG dX7_makeBare_44 1 rfl ?_
      have J56 : ∀ (σ56 : q_V), (q_S md_X7_makeBare τ σ σ56) → (fx_eq Fv (kJ_X7_makeBare_56 p33_2.toInt (kL_X7_makeBare_33 a0 x1.toInt n33) (fx_N σ56))) → q_O X 0 0 τ σ56 56 [(0, .ref a0), (1, .int x1), (2, .int p33_2)] [] := by
        intro σ56 hS56 hF
        unfold kJ_X7_makeBare_56 at hF
        obtain ⟨v56, e56⟩ : ∃ z : Int32, z = p33_2 + Int32.ofInt 1 := ⟨_, rfl⟩
        have h56 := q_incN (lo := 1) (hi := 2) r_5 (by decide) (by decide) e56
        replace hF := fx_add hF rfl rfl h56.1
        refine q_iinc (pc := 56) [(2, .int v56), (0, .ref a0), (1, .int x1)] hG dX7_makeBare_56 2 rfl e56 (by decide) rfl ?_
        refine q_goto (pc := 59) 33 hG dX7_makeBare_59 rfl ?_
        refine q_lv [1, 2, 0] rfl ?_
        exact ih33 v56 σ56 (q_r.mono h56.2 (by decide)) hS56 hF (q_measU hm33 (by have o0 := c35; have o1 := h56.1; have o2 := r_5; have o3 := h56.2; have l4 := tl_2; unfold q_r at o2 o3; omega) (h56.2).2)
      refine q_icmp_ne (pc := 45) hG 56 dX7_makeBare_45 rfl ?_ ?_
      · intro c45
        replace hF := fx_eq2 hF rfl rfl c45
        refine q_lv [0, 1, 2] rfl ?_
        exact J56 σ33 hS33 hF
      intro c45
      replace hF := fx_eq1 hF rfl rfl c45
      refine q_aload_n (pc := 48) hG dX7_makeBare_48 0 rfl ?_
      refine q_getV (pc := 49) (v := .ref b39) hG fl_X7_44 dX7_makeBare_49 tA0 (hS33.same tA0 rfl f_4) ?_
      refine q_iload_n (pc := 52) hG dX7_makeBare_52 2 rfl ?_
      refine q_bipush (pc := 53) hG dX7_makeBare_53 kb_m2 ?_
      refine q_iast (pc := 55) hG dX7_makeBare_55 hS33 ai_124 T39 (q_ix r_5 (by decide)) rl_m2 (by decide) rfl (fun s55 u55 w55 => ?_)
      replace hF := fx_P hF u55 rfl tl_m2
      have m55 : s55 b39 p33_2.toInt.toNat = .int (-2) := by rw [u55]; exact q_up_same
      refine q_lv [0, 1, 2] rfl ?_
      exact J56 s55 w55 hF
  refine q_lv [1, 2, 0] rfl ?_
  exact J33 ((2 - (0 : Int32).toInt).toNat + 1) 0 s30 (q_r.mono rl_0 (by decide)) w30 (by rw [tl_0]; exact hF) (Nat.lt_succ_self _)
theorem dX7_layAnew_0 : decode cX7_layAnew 0 = .ok (.aload_n 0, 1) := by decide +kernel
theorem dX7_layAnew_1 : decode cX7_layAnew 1 = .ok (.iload_n 1, 1) := by decide +kernel
theorem dX7_layAnew_2 : decode cX7_layAnew 2 = .ok (.putfield 9, 3) := by decide +kernel
theorem dX7_layAnew_5 : decode cX7_layAnew 5 = .ok (.iconst 0, 1) := by decide +kernel
theorem dX7_layAnew_6 : decode cX7_layAnew 6 = .ok (.istore_n 2, 1) := by decide +kernel
theorem dX7_layAnew_7 : decode cX7_layAnew 7 = .ok (.iload_n 2, 1) := by decide +kernel
theorem dX7_layAnew_8 : decode cX7_layAnew 8 = .ok (.bipush 64, 2) := by decide +kernel
theorem dX7_layAnew_10 : decode cX7_layAnew 10 = .ok (.if_icmp .ge 43, 3) := by decide +kernel
theorem dX7_layAnew_13 : decode cX7_layAnew 13 = .ok (.aload_n 0, 1) := by decide +kernel
theorem dX7_layAnew_14 : decode cX7_layAnew 14 = .ok (.getfield 15, 3) := by decide +kernel
theorem dX7_layAnew_17 : decode cX7_layAnew 17 = .ok (.iload_n 2, 1) := by decide +kernel
theorem dX7_layAnew_18 : decode cX7_layAnew 18 = .ok (.iconst 0, 1) := by decide +kernel
theorem dX7_layAnew_19 : decode cX7_layAnew 19 = .ok (.iastore, 1) := by decide +kernel
theorem dX7_layAnew_20 : decode cX7_layAnew 20 = .ok (.aload_n 0, 1) := by decide +kernel
theorem dX7_layAnew_21 : decode cX7_layAnew 21 = .ok (.getfield 19, 3) := by decide +kernel
theorem dX7_layAnew_24 : decode cX7_layAnew 24 = .ok (.iload_n 2, 1) := by decide +kernel
theorem dX7_layAnew_25 : decode cX7_layAnew 25 = .ok (.iconst 0, 1) := by decide +kernel
theorem dX7_layAnew_26 : decode cX7_layAnew 26 = .ok (.iastore, 1) := by decide +kernel
theorem dX7_layAnew_27 : decode cX7_layAnew 27 = .ok (.aload_n 0, 1) := by decide +kernel
theorem dX7_layAnew_28 : decode cX7_layAnew 28 = .ok (.getfield 22, 3) := by decide +kernel
theorem dX7_layAnew_31 : decode cX7_layAnew 31 = .ok (.iload_n 2, 1) := by decide +kernel
theorem dX7_layAnew_32 : decode cX7_layAnew 32 = .ok (.iconst 0, 1) := by decide +kernel
theorem dX7_layAnew_33 : decode cX7_layAnew 33 = .ok (.iastore, 1) := by decide +kernel
theorem dX7_layAnew_34 : decode cX7_layAnew 34 = .ok (.aload_n 0, 1) := by decide +kernel
theorem dX7_layAnew_35 : decode cX7_layAnew 35 = .ok (.getfield 25, 3) := by decide +kernel
theorem dX7_layAnew_38 : decode cX7_layAnew 38 = .ok (.iload_n 2, 1) := by decide +kernel
theorem dX7_layAnew_39 : decode cX7_layAnew 39 = .ok (.bipush (-100), 2) := by decide +kernel
theorem dX7_layAnew_41 : decode cX7_layAnew 41 = .ok (.iastore, 1) := by decide +kernel
theorem dX7_layAnew_42 : decode cX7_layAnew 42 = .ok (.aload_n 0, 1) := by decide +kernel
theorem dX7_layAnew_43 : decode cX7_layAnew 43 = .ok (.iload_n 2, 1) := by decide +kernel
theorem dX7_layAnew_44 : decode cX7_layAnew 44 = .ok (.invokevirtual 72, 3) := by decide +kernel
theorem dX7_layAnew_47 : decode cX7_layAnew 47 = .ok (.iinc 2 1, 3) := by decide +kernel
theorem dX7_layAnew_50 : decode cX7_layAnew 50 = .ok (.goto (-43), 3) := by decide +kernel
theorem dX7_layAnew_53 : decode cX7_layAnew 53 = .ok (.iconst 0, 1) := by decide +kernel
theorem dX7_layAnew_54 : decode cX7_layAnew 54 = .ok (.istore_n 2, 1) := by decide +kernel
theorem dX7_layAnew_55 : decode cX7_layAnew 55 = .ok (.iload_n 2, 1) := by decide +kernel
theorem dX7_layAnew_56 : decode cX7_layAnew 56 = .ok (.iconst 2, 1) := by decide +kernel
theorem dX7_layAnew_57 : decode cX7_layAnew 57 = .ok (.if_icmp .ge 24, 3) := by decide +kernel
theorem dX7_layAnew_60 : decode cX7_layAnew 60 = .ok (.aload_n 0, 1) := by decide +kernel
theorem dX7_layAnew_61 : decode cX7_layAnew 61 = .ok (.getfield 40, 3) := by decide +kernel
theorem dX7_layAnew_64 : decode cX7_layAnew 64 = .ok (.iload_n 2, 1) := by decide +kernel
theorem dX7_layAnew_65 : decode cX7_layAnew 65 = .ok (.iconst 0, 1) := by decide +kernel
theorem dX7_layAnew_66 : decode cX7_layAnew 66 = .ok (.bastore, 1) := by decide +kernel
theorem dX7_layAnew_67 : decode cX7_layAnew 67 = .ok (.aload_n 0, 1) := by decide +kernel
theorem dX7_layAnew_68 : decode cX7_layAnew 68 = .ok (.getfield 44, 3) := by decide +kernel
theorem dX7_layAnew_71 : decode cX7_layAnew 71 = .ok (.iload_n 2, 1) := by decide +kernel
theorem dX7_layAnew_72 : decode cX7_layAnew 72 = .ok (.bipush (-2), 2) := by decide +kernel
theorem dX7_layAnew_74 : decode cX7_layAnew 74 = .ok (.iastore, 1) := by decide +kernel
theorem dX7_layAnew_75 : decode cX7_layAnew 75 = .ok (.iinc 2 1, 3) := by decide +kernel
theorem dX7_layAnew_78 : decode cX7_layAnew 78 = .ok (.goto (-23), 3) := by decide +kernel
theorem dX7_layAnew_81 : decode cX7_layAnew 81 = .ok (.return_, 1) := by decide +kernel
def md_X7_layAnew : List (Nat × Nat) := [(6, 0), (118, 0), (119, 0), (120, 0), (121, 0), (122, 0), (123, 0), (124, 0), (210, 0)]
set_option maxRecDepth 100000 in
set_option maxHeartbeats 4000000 in
theorem c_X7_layAnew {l : Launch} {D : q_D} (τ : q_T) (σ : q_V) (a0 : Nat) (x1 : Int32) (hI : q_I τ σ) (tA0 : τ a0 = some (6, 1)) (rA1 : q_r x1 8 64) : q_Cv l D yX7_layAnew cX7_layAnew 3 none 1 22 τ σ [.ref a0, .int x1] (fun σ1 => q_S md_X7_layAnew τ σ σ1 ∧ (fx_N σ1 = f_X7_layAnew (fx_N σ) a0 x1.toInt) ∧ (σ1 a0 0 = .int x1) ∧ (∀ b : Nat, b ≠ a0 → τ b = some (6, 1) → σ1 b 0 = σ b 0) ∧ (∀ c0 c1 c2 : Nat, σ a0 1 = .ref c0 → σ a0 2 = .ref c1 → σ a0 3 = .ref c2 → zz_rx τ σ σ1 c0 c1 c2 ∧ zz_rz σ1 c0 c1 c2 64)) := by
  refine q_metv rfl (Nat.le_of_ble_eq_true rfl) (fun X hG hE => ?_)
  show q_O X 0 0 τ σ 0 [(0, .ref a0), (1, .int x1)] []
  have hS0 : q_S md_X7_layAnew τ σ σ := q_S.rf hI
  obtain ⟨Fv, hF⟩ : ∃ z, fx_eq z (f_X7_layAnew (fx_N σ) a0 x1.toInt) := ⟨_, fx_rf⟩
  have hF0 := hF
  unfold f_X7_layAnew at hF
  obtain ⟨q_1b, q_1f, q_1T⟩ := (hI a0 6 1 tA0 1 (by decide)).ref (k := 118) (n := 64) rfl
  replace hF := fx_R hF q_1f rfl
  obtain ⟨q_2b, q_2f, q_2T⟩ := (hI a0 6 1 tA0 2 (by decide)).ref (k := 118) (n := 64) rfl
  replace hF := fx_R hF q_2f rfl
  obtain ⟨q_3b, q_3f, q_3T⟩ := (hI a0 6 1 tA0 3 (by decide)).ref (k := 118) (n := 64) rfl
  replace hF := fx_R hF q_3f rfl
  refine q_aload_n (pc := 0) hG dX7_layAnew_0 0 rfl ?_
  refine q_iload_n (pc := 1) hG dX7_layAnew_1 1 rfl ?_
  refine q_putI (pc := 2) hG fl_X7_9 dX7_layAnew_2 hS0 tA0 ff_6_0 rA1 (by decide) rfl (fun s2 u2 w2 => ?_)
  replace hF := fx_P hF u2 rfl rfl
  have m2 : s2 a0 0 = .int x1 := by rw [u2]; exact q_up_same
  refine q_iconst (pc := 5) hG dX7_layAnew_5 ki_0 ?_
  refine q_istore_n (pc := 6) [(2, .int 0), (0, .ref a0), (1, .int x1)] hG dX7_layAnew_6 (by decide) rfl ?_
  have J7 : ∀ (n7 : Nat) (p7_2 : Int32) (σ7 : q_V), (q_r p7_2 0 64) → (q_S md_X7_layAnew τ σ σ7) → (σ7 a0 0 = .int x1 ∧ ∀ b : Nat, b ≠ a0 → τ b = some (6, 1) → σ7 b 0 = σ b 0) → (zz_rx τ σ σ7 q_1b q_2b q_3b ∧ zz_rz σ7 q_1b q_2b q_3b p7_2.toInt) → (fx_eq Fv (kL_X7_layAnew_7 q_1b q_2b q_3b a0 n7 p7_2.toInt (fx_N σ7))) → ((64 - p7_2.toInt).toNat < n7) → q_O X 0 0 τ σ7 7 [(0, .ref a0), (2, .int p7_2)] [] := by
    intro n7
    induction n7 with
    | zero => intro p7_2 σ7 r7_2 hS7 iF0_7 iRW7 hF hm7; exact absurd hm7 (Nat.not_lt_zero _)
    | succ n7 ih7 =>
      intro p7_2 σ7 r7_2 hS7 iF0_7 iRW7 hF hm7
      replace hF := (show fx_eq Fv (kB_X7_layAnew_7 (kL_X7_layAnew_7 q_1b q_2b q_3b a0 n7) q_1b q_2b q_3b a0 p7_2.toInt (fx_N σ7)) from hF)
      unfold kB_X7_layAnew_7 at hF
      refine q_iload_n (pc := 7) hG dX7_layAnew_7 1 rfl ?_
      refine q_bipush (pc := 8) hG dX7_layAnew_8 kb_64 ?_
      refine q_icmp_ge (pc := 10) hG 53 dX7_layAnew_10 rfl ?_ ?_
      · intro c10
        replace hF := fx_lt2 hF rfl tl_64 c10
        refine q_iconst (pc := 53) hG dX7_layAnew_53 ki_0 ?_
        refine q_istore_n (pc := 54) [(2, .int 0), (0, .ref a0)] hG dX7_layAnew_54 (by decide) rfl ?_
        have J55 : ∀ (n55 : Nat) (p55_2 : Int32) (σ55 : q_V), (q_r p55_2 0 2) → (q_S md_X7_layAnew τ σ σ55) → (σ55 a0 0 = .int x1 ∧ ∀ b : Nat, b ≠ a0 → τ b = some (6, 1) → σ55 b 0 = σ b 0) → (zz_rx τ σ σ55 q_1b q_2b q_3b ∧ zz_rz σ55 q_1b q_2b q_3b 64) → (fx_eq Fv (kL_X7_layAnew_55 a0 n55 p55_2.toInt (fx_N σ55))) → ((2 - p55_2.toInt).toNat < n55) → q_O X 0 0 τ σ55 55 [(0, .ref a0), (2, .int p55_2)] [] := by
          intro n55
          induction n55 with
          | zero => intro p55_2 σ55 r55_2 hS55 iF0_55 iRW55 hF hm55; exact absurd hm55 (Nat.not_lt_zero _)
          | succ n55 ih55 =>
            intro p55_2 σ55 r55_2 hS55 iF0_55 iRW55 hF hm55
            replace hF := (show fx_eq Fv (kB_X7_layAnew_55 (kL_X7_layAnew_55 a0 n55) a0 p55_2.toInt (fx_N σ55)) from hF)
            unfold kB_X7_layAnew_55 at hF
            refine q_iload_n (pc := 55) hG dX7_layAnew_55 1 rfl ?_
            refine q_iconst (pc := 56) hG dX7_layAnew_56 ki_2 ?_
            refine q_icmp_ge (pc := 57) hG 81 dX7_layAnew_57 rfl ?_ ?_
            · intro c57
              replace hF := fx_lt2 hF rfl tl_2 c57
              exact q_vrt hG hE dX7_layAnew_81 ⟨hS55, (fx_end hF hF0), iF0_55.1, iF0_55.2, (fun c0 c1 c2 h0 h1 h2 => by cases h0.symm.trans q_1f; cases h1.symm.trans q_2f; cases h2.symm.trans q_3f; exact iRW55)⟩
            intro c57
            replace hF := fx_lt1 hF rfl tl_2 c57
            refine q_aload_n (pc := 60) hG dX7_layAnew_60 0 rfl ?_
            refine q_getR (pc := 61) (k2 := 210) (n2 := 2) hG fl_X7_40 dX7_layAnew_61 hS55.1 tA0 ff_6_9 (fun b61 f61 T61 => ?_)
            replace hF := fx_R hF f61 rfl
            have f_4 := (hS55.2 _ _ _ _ tA0 rfl).symm.trans f61
            refine q_iload_n (pc := 64) hG dX7_layAnew_64 1 rfl ?_
            refine q_iconst (pc := 65) hG dX7_layAnew_65 ki_0 ?_
            have r_5 := q_rlt r55_2 rl_2 c57 1 (by decide)
            refine q_zast (pc := 66) hG dX7_layAnew_66 hS55 ai_210 T61 (q_ix r_5 (by decide)) (q_r.mono rl_0 (by decide)) rfl (fun s66 u66 w66 => ?_)
            replace hF := fx_P hF u66 rfl tl_0
            have m66 : s66 b61 p55_2.toInt.toNat = .int 0 := by rw [u66]; exact q_up_same
            refine q_aload_n (pc := 67) hG dX7_layAnew_67 0 rfl ?_
            refine q_getR (pc := 68) (k2 := 124) (n2 := 2) hG fl_X7_44 dX7_layAnew_68 w66.1 tA0 ff_6_10 (fun b68 f68 T68 => ?_)
            replace hF := fx_R hF f68 rfl
            have f_6 := (w66.2 _ _ _ _ tA0 rfl).symm.trans f68
            refine q_iload_n (pc := 71) hG dX7_layAnew_71 1 rfl ?_
            refine q_bipush (pc := 72) hG dX7_layAnew_72 kb_m2 ?_
            refine q_iast (pc := 74) hG dX7_layAnew_74 w66 ai_124 T68 (q_ix r_5 (by decide)) rl_m2 (by decide) rfl (fun s74 u74 w74 => ?_)
            replace hF := fx_P hF u74 rfl tl_m2
            have m74 : s74 b68 p55_2.toInt.toNat = .int (-2) := by rw [u74]; exact q_up_same
            obtain ⟨v75, e75⟩ : ∃ z : Int32, z = p55_2 + Int32.ofInt 1 := ⟨_, rfl⟩
            have h75 := q_incN (lo := 1) (hi := 2) r_5 (by decide) (by decide) e75
            replace hF := fx_add hF rfl rfl h75.1
            refine q_iinc (pc := 75) [(2, .int v75), (0, .ref a0)] hG dX7_layAnew_75 1 rfl e75 (by decide) rfl ?_
            refine q_goto (pc := 78) 55 hG dX7_layAnew_78 rfl ?_
            refine q_lv [1, 0] rfl ?_
            exact ih55 v75 s74 (q_r.mono h75.2 (by decide)) w74 ⟨(by rw [u74]; exact (q_keepK tA0 T68 (by decide)).trans (by rw [u66]; exact (q_keepK tA0 T61 (by decide)).trans iF0_55.1)), (fun b hb hT => by rw [u74, q_keepK hT T68 (by decide), u66, q_keepK hT T61 (by decide)]; exact iF0_55.2 b hb hT)⟩ ⟨(zz_rx.S (zz_rx.S iRW55.1 (fun _ hc => (zz_sP u66 T61 (by decide) hc))) (fun _ hc => (zz_sP u74 T68 (by decide) hc))), (zz_rz.S (zz_rz.S iRW55.2 (zz_sP u66 T61 (by decide) q_1T) (zz_sP u66 T61 (by decide) q_2T) (zz_sP u66 T61 (by decide) q_3T)) (zz_sP u74 T68 (by decide) q_1T) (zz_sP u74 T68 (by decide) q_2T) (zz_sP u74 T68 (by decide) q_3T))⟩ hF (q_measU hm55 (by have o0 := c57; have o1 := h75.1; have o2 := r_5; have o3 := h75.2; have l4 := tl_2; unfold q_r at o2 o3; omega) (h75.2).2)
        refine q_lv [1, 0] rfl ?_
        have r_7 := q_rge r7_2 rl_64 c10
        exact J55 ((2 - (0 : Int32).toInt).toNat + 1) 0 σ7 (q_r.mono rl_0 (by decide)) hS7 ⟨iF0_7.1, iF0_7.2⟩ ⟨iRW7.1, (zz_rz.le iRW7.2 (by have o0 := c10; have o1 := r_7; have l2 := tl_64; unfold q_r at o1; omega))⟩ (by rw [tl_0]; exact hF) (Nat.lt_succ_self _)
      intro c10
      replace hF := fx_lt1 hF rfl tl_64 c10
      refine q_aload_n (pc := 13) hG dX7_layAnew_13 0 rfl ?_
      refine q_getV (pc := 14) (v := .ref q_1b) hG fl_X7_15 dX7_layAnew_14 tA0 (hS7.same tA0 rfl q_1f) ?_
      refine q_iload_n (pc := 17) hG dX7_layAnew_17 1 rfl ?_
      refine q_iconst (pc := 18) hG dX7_layAnew_18 ki_0 ?_
      have r_8 := q_rlt r7_2 rl_64 c10 63 (by decide)
      refine q_iast (pc := 19) hG dX7_layAnew_19 hS7 ai_118 q_1T (q_ix r_8 (by decide)) rl_0 (by decide) rfl (fun s19 u19 w19 => ?_)
      replace hF := fx_P hF u19 rfl tl_0
      have m19 : s19 q_1b p7_2.toInt.toNat = .int 0 := by rw [u19]; exact q_up_same
      refine q_aload_n (pc := 20) hG dX7_layAnew_20 0 rfl ?_
      refine q_getV (pc := 21) (v := .ref q_2b) hG fl_X7_19 dX7_layAnew_21 tA0 (w19.same tA0 rfl q_2f) ?_
      refine q_iload_n (pc := 24) hG dX7_layAnew_24 1 rfl ?_
      refine q_iconst (pc := 25) hG dX7_layAnew_25 ki_0 ?_
      refine q_iast (pc := 26) hG dX7_layAnew_26 w19 ai_118 q_2T (q_ix r_8 (by decide)) rl_0 (by decide) rfl (fun s26 u26 w26 => ?_)
      replace hF := fx_P hF u26 rfl tl_0
      have m26 : s26 q_2b p7_2.toInt.toNat = .int 0 := by rw [u26]; exact q_up_same
      refine q_aload_n (pc := 27) hG dX7_layAnew_27 0 rfl ?_
      refine q_getV (pc := 28) (v := .ref q_3b) hG fl_X7_22 dX7_layAnew_28 tA0 (w26.same tA0 rfl q_3f) ?_
      refine q_iload_n (pc := 31) hG dX7_layAnew_31 1 rfl ?_
      refine q_iconst (pc := 32) hG dX7_layAnew_32 ki_0 ?_
      refine q_iast (pc := 33) hG dX7_layAnew_33 w26 ai_118 q_3T (q_ix r_8 (by decide)) rl_0 (by decide) rfl (fun s33 u33 w33 => ?_)
      replace hF := fx_P hF u33 rfl tl_0
      have m33 : s33 q_3b p7_2.toInt.toNat = .int 0 := by rw [u33]; exact q_up_same
      refine q_aload_n (pc := 34) hG dX7_layAnew_34 0 rfl ?_
      refine q_getR (pc := 35) (k2 := 119) (n2 := 64) hG fl_X7_25 dX7_layAnew_35 w33.1 tA0 ff_6_4 (fun b35 f35 T35 => ?_)
      replace hF := fx_R hF f35 rfl
      have f_9 := (w33.2 _ _ _ _ tA0 rfl).symm.trans f35
      refine q_iload_n (pc := 38) hG dX7_layAnew_38 1 rfl ?_
      refine q_bipush (pc := 39) hG dX7_layAnew_39 kb_m100 ?_
      refine q_iast (pc := 41) hG dX7_layAnew_41 w33 ai_119 T35 (q_ix r_8 (by decide)) rl_m100 (by decide) rfl (fun s41 u41 w41 => ?_)
      replace hF := fx_P hF u41 rfl tl_m100
      have m41 : s41 b35 p7_2.toInt.toNat = .int (-100) := by rw [u41]; exact q_up_same
      refine q_aload_n (pc := 42) hG dX7_layAnew_42 0 rfl ?_
      refine q_iload_n (pc := 43) hG dX7_layAnew_43 1 rfl ?_
      refine q_cVv (pc := 44) [.int p7_2] [] hG (c_X7_makeBare τ s41 a0 p7_2 w41.1 tA0 r_8) my_X7_makeBare mv_X7_makeBare w84 dX7_layAnew_44 tA0 (by decide) rfl rfl (Nat.le_of_ble_eq_true rfl) (by decide) (fun s44 p44 => ?_)
      have w44 := w41.trans p44.1 rfl
      replace hF := fx_S hF p44.2
      obtain ⟨v47, e47⟩ : ∃ z : Int32, z = p7_2 + Int32.ofInt 1 := ⟨_, rfl⟩
      have h47 := q_incN (lo := 1) (hi := 64) r_8 (by decide) (by decide) e47
      replace hF := fx_add hF rfl rfl h47.1
      refine q_iinc (pc := 47) [(2, .int v47), (0, .ref a0)] hG dX7_layAnew_47 1 rfl e47 (by decide) rfl ?_
      refine q_goto (pc := 50) 7 hG dX7_layAnew_50 rfl ?_
      refine q_lv [1, 0] rfl ?_
      exact ih7 v47 s44 (q_r.mono h47.2 (by decide)) w44 ⟨(p44.1.same tA0 rfl (by rw [u41]; exact (q_keepK tA0 T35 (by decide)).trans (by rw [u33]; exact (q_keepK tA0 q_3T (by decide)).trans (by rw [u26]; exact (q_keepK tA0 q_2T (by decide)).trans (by rw [u19]; exact (q_keepK tA0 q_1T (by decide)).trans iF0_7.1))))), (fun b hb hT => by rw [p44.1.2 b 6 1 0 hT rfl, u41, q_keepK hT T35 (by decide), u33, q_keepK hT q_3T (by decide), u26, q_keepK hT q_2T (by decide), u19, q_keepK hT q_1T (by decide)]; exact iF0_7.2 b hb hT)⟩ ⟨(zz_rx.S (zz_rx.S (zz_rx.P (zz_rx.P (zz_rx.P iRW7.1 u19 (Or.inl rfl)) u26 (Or.inr (Or.inl rfl))) u33 (Or.inr (Or.inr rfl))) (fun _ hc => (zz_sP u41 T35 (by decide) hc))) (fun _ hc => (zz_sC p44.1 rfl hc))), (zz_rz.le (zz_rz.S (zz_rz.S (zz_rz.it iRW7.2 u19 u26 u33) (zz_sP u41 T35 (by decide) q_1T) (zz_sP u41 T35 (by decide) q_2T) (zz_sP u41 T35 (by decide) q_3T)) (zz_sC p44.1 rfl q_1T) (zz_sC p44.1 rfl q_2T) (zz_sC p44.1 rfl q_3T)) (by have o0 := c10; have o1 := h47.1; have o2 := r_8; have o3 := h47.2; have l4 := tl_64; unfold q_r at o2 o3; omega))⟩ hF (q_measU hm7 (by have o0 := c10; have o1 := h47.1; have o2 := r_8; have o3 := h47.2; have l4 := tl_64; unfold q_r at o2 o3; omega) (h47.2).2)
  refine q_lv [1, 0] rfl ?_
  exact J7 ((64 - (0 : Int32).toInt).toNat + 1) 0 s2 (q_r.mono rl_0 (by decide)) w2 ⟨m2, (fun b hb hT => by rw [u2, q_up_ne hb])⟩ ⟨(zz_rx.S zz_rx.rf (fun _ hc => (zz_sP u2 tA0 (by decide) hc))), (fun j hj => absurd hj (by have q := tl_0; omega))⟩ (by rw [tl_0]; exact hF) (Nat.lt_succ_self _)
theorem dX7_rowOf_0 : decode cX7_rowOf 0 = .ok (.iload_n 1, 1) := by decide +kernel
theorem dX7_rowOf_1 : decode cX7_rowOf 1 = .ok (.ifCond .ne 8, 3) := by decide +kernel
theorem dX7_rowOf_4 : decode cX7_rowOf 4 = .ok (.aload_n 0, 1) := by decide +kernel
theorem dX7_rowOf_5 : decode cX7_rowOf 5 = .ok (.getfield 15, 3) := by decide +kernel
theorem dX7_rowOf_8 : decode cX7_rowOf 8 = .ok (.areturn, 1) := by decide +kernel
theorem dX7_rowOf_9 : decode cX7_rowOf 9 = .ok (.iload_n 1, 1) := by decide +kernel
theorem dX7_rowOf_10 : decode cX7_rowOf 10 = .ok (.iconst 1, 1) := by decide +kernel
theorem dX7_rowOf_11 : decode cX7_rowOf 11 = .ok (.if_icmp .ne 10, 3) := by decide +kernel
theorem dX7_rowOf_14 : decode cX7_rowOf 14 = .ok (.aload_n 0, 1) := by decide +kernel
theorem dX7_rowOf_15 : decode cX7_rowOf 15 = .ok (.getfield 19, 3) := by decide +kernel
theorem dX7_rowOf_18 : decode cX7_rowOf 18 = .ok (.goto 7, 3) := by decide +kernel
theorem dX7_rowOf_21 : decode cX7_rowOf 21 = .ok (.aload_n 0, 1) := by decide +kernel
theorem dX7_rowOf_22 : decode cX7_rowOf 22 = .ok (.getfield 22, 3) := by decide +kernel
theorem dX7_rowOf_25 : decode cX7_rowOf 25 = .ok (.areturn, 1) := by decide +kernel
set_option maxRecDepth 100000 in
set_option maxHeartbeats 4000000 in
theorem c_X7_rowOf {l : Launch} {D : q_D} (τ : q_T) (σ : q_V) (a0 : Nat) (x1 : Int32) (hI : q_I τ σ) (tA0 : τ a0 = some (6, 1)) : q_Cq l D yX7_rowOf cX7_rowOf 2 (some (.array .int)) 0 0 τ σ [.ref a0, .int x1] (fun r => (τ r = some (118, 64)) ∧ (r = f_X7_rowOf (fx_N σ) a0 x1.toInt)) := by
  refine q_metr rfl (Nat.le_of_ble_eq_true rfl) (fun X hG hE => ?_)
  show q_O X 0 0 τ σ 0 [(0, .ref a0), (1, .int x1)] []
  obtain ⟨Fv, hF⟩ : ∃ z, fx_eq z (f_X7_rowOf (fx_N σ) a0 x1.toInt) := ⟨_, fx_rf⟩
  have hF0 := hF
  unfold f_X7_rowOf at hF
  refine q_iload_n (pc := 0) hG dX7_rowOf_0 1 rfl ?_
  refine q_if_ne (pc := 1) hG 9 dX7_rowOf_1 rfl ?_ ?_
  · intro c1
    replace hF := fx_eq2 hF rfl rfl c1
    refine q_iload_n (pc := 9) hG dX7_rowOf_9 1 rfl ?_
    refine q_iconst (pc := 10) hG dX7_rowOf_10 ki_1 ?_
    refine q_icmp_ne (pc := 11) hG 21 dX7_rowOf_11 rfl ?_ ?_
    · intro c11
      replace hF := fx_eq2 hF rfl tl_1 c11
      refine q_aload_n (pc := 21) hG dX7_rowOf_21 0 rfl ?_
      refine q_getR (pc := 22) (k2 := 118) (n2 := 64) hG fl_X7_22 dX7_rowOf_22 hI tA0 ff_6_3 (fun b22 f22 T22 => ?_)
      replace hF := fx_R hF f22 rfl
      exact q_art hG hE dX7_rowOf_25 ⟨rfl, T22, (fx_end hF hF0)⟩
    intro c11
    replace hF := fx_eq1 hF rfl tl_1 c11
    refine q_aload_n (pc := 14) hG dX7_rowOf_14 0 rfl ?_
    refine q_getR (pc := 15) (k2 := 118) (n2 := 64) hG fl_X7_19 dX7_rowOf_15 hI tA0 ff_6_2 (fun b15 f15 T15 => ?_)
    replace hF := fx_R hF f15 rfl
    refine q_goto (pc := 18) 25 hG dX7_rowOf_18 rfl ?_
    exact q_art hG hE dX7_rowOf_25 ⟨rfl, T15, (fx_end hF hF0)⟩
  intro c1
  replace hF := fx_eq1 hF rfl rfl c1
  refine q_aload_n (pc := 4) hG dX7_rowOf_4 0 rfl ?_
  refine q_getR (pc := 5) (k2 := 118) (n2 := 64) hG fl_X7_15 dX7_rowOf_5 hI tA0 ff_6_1 (fun b5 f5 T5 => ?_)
  replace hF := fx_R hF f5 rfl
  exact q_art hG hE dX7_rowOf_8 ⟨rfl, T5, (fx_end hF hF0)⟩
theorem dX7_spoil_0 : decode cX7_spoil 0 = .ok (.aload_n 0, 1) := by decide +kernel
theorem dX7_spoil_1 : decode cX7_spoil 1 = .ok (.getfield 37, 3) := by decide +kernel
theorem dX7_spoil_4 : decode cX7_spoil 4 = .ok (.iload_n 1, 1) := by decide +kernel
theorem dX7_spoil_5 : decode cX7_spoil 5 = .ok (.iaload, 1) := by decide +kernel
theorem dX7_spoil_6 : decode cX7_spoil 6 = .ok (.bipush (-2), 2) := by decide +kernel
theorem dX7_spoil_8 : decode cX7_spoil 8 = .ok (.if_icmp .ne 10, 3) := by decide +kernel
theorem dX7_spoil_11 : decode cX7_spoil 11 = .ok (.aload_n 0, 1) := by decide +kernel
theorem dX7_spoil_12 : decode cX7_spoil 12 = .ok (.getfield 37, 3) := by decide +kernel
theorem dX7_spoil_15 : decode cX7_spoil 15 = .ok (.iload_n 1, 1) := by decide +kernel
theorem dX7_spoil_16 : decode cX7_spoil 16 = .ok (.iload_n 2, 1) := by decide +kernel
theorem dX7_spoil_17 : decode cX7_spoil 17 = .ok (.iastore, 1) := by decide +kernel
theorem dX7_spoil_18 : decode cX7_spoil 18 = .ok (.return_, 1) := by decide +kernel
def md_X7_spoil : List (Nat × Nat) := [(123, 0)]
set_option maxRecDepth 100000 in
set_option maxHeartbeats 4000000 in
theorem c_X7_spoil {l : Launch} {D : q_D} (τ : q_T) (σ : q_V) (a0 : Nat) (x1 : Int32) (x2 : Int32) (hI : q_I τ σ) (tA0 : τ a0 = some (6, 1)) (rA1 : q_r x1 0 63) : q_Cv l D yX7_spoil cX7_spoil 3 none 0 0 τ σ [.ref a0, .int x1, .int x2] (fun σ1 => q_S md_X7_spoil τ σ σ1 ∧ (fx_N σ1 = f_X7_spoil (fx_N σ) a0 x1.toInt x2.toInt)) := by
  refine q_metv rfl (Nat.le_of_ble_eq_true rfl) (fun X hG hE => ?_)
  show q_O X 0 0 τ σ 0 [(0, .ref a0), (1, .int x1), (2, .int x2)] []
  have hS0 : q_S md_X7_spoil τ σ σ := q_S.rf hI
  obtain ⟨Fv, hF⟩ : ∃ z, fx_eq z (f_X7_spoil (fx_N σ) a0 x1.toInt x2.toInt) := ⟨_, fx_rf⟩
  have hF0 := hF
  unfold f_X7_spoil at hF
  refine q_aload_n (pc := 0) hG dX7_spoil_0 0 rfl ?_
  refine q_getR (pc := 1) (k2 := 123) (n2 := 64) hG fl_X7_37 dX7_spoil_1 hI tA0 ff_6_8 (fun b1 f1 T1 => ?_)
  replace hF := fx_R hF f1 rfl
  refine q_iload_n (pc := 4) hG dX7_spoil_4 1 rfl ?_
  refine q_iald (pc := 5) hG dX7_spoil_5 hI ai_123 T1 (q_ix rA1 (by decide)) (fun v5 f5 g5 => ?_)
  replace hF := fx_I hF f5 rfl
  refine q_bipush (pc := 6) hG dX7_spoil_6 kb_m2 ?_
  refine q_icmp_ne (pc := 8) hG 18 dX7_spoil_8 rfl ?_ ?_
  · intro c8
    replace hF := fx_eq2 hF rfl tl_m2 c8
    exact q_vrt hG hE dX7_spoil_18 ⟨hS0, (fx_end hF hF0)⟩
  intro c8
  replace hF := fx_eq1 hF rfl tl_m2 c8
  refine q_aload_n (pc := 11) hG dX7_spoil_11 0 rfl ?_
  refine q_getV (pc := 12) (v := .ref b1) hG fl_X7_37 dX7_spoil_12 tA0 f1 ?_
  refine q_iload_n (pc := 15) hG dX7_spoil_15 1 rfl ?_
  refine q_iload_n (pc := 16) hG dX7_spoil_16 2 rfl ?_
  refine q_iast (pc := 17) hG dX7_spoil_17 hS0 ai_123 T1 (q_ix rA1 (by decide)) (q_r_any x2) (by decide) rfl (fun s17 u17 w17 => ?_)
  replace hF := fx_P hF u17 rfl rfl
  have m17 : s17 b1 x1.toInt.toNat = .int x2 := by rw [u17]; exact q_up_same
  exact q_vrt hG hE dX7_spoil_18 ⟨w17, (fx_end hF hF0)⟩
theorem dX7_offsetBy_0 : decode cX7_offsetBy 0 = .ok (.aload_n 0, 1) := by decide +kernel
theorem dX7_offsetBy_1 : decode cX7_offsetBy 1 = .ok (.getfield 15, 3) := by decide +kernel
theorem dX7_offsetBy_4 : decode cX7_offsetBy 4 = .ok (.iload_n 2, 1) := by decide +kernel
theorem dX7_offsetBy_5 : decode cX7_offsetBy 5 = .ok (.iaload, 1) := by decide +kernel
theorem dX7_offsetBy_6 : decode cX7_offsetBy 6 = .ok (.aload_n 0, 1) := by decide +kernel
theorem dX7_offsetBy_7 : decode cX7_offsetBy 7 = .ok (.getfield 50, 3) := by decide +kernel
theorem dX7_offsetBy_10 : decode cX7_offsetBy 10 = .ok (.iload_n 1, 1) := by decide +kernel
theorem dX7_offsetBy_11 : decode cX7_offsetBy 11 = .ok (.iaload, 1) := by decide +kernel
theorem dX7_offsetBy_12 : decode cX7_offsetBy 12 = .ok (.iadd, 1) := by decide +kernel
theorem dX7_offsetBy_13 : decode cX7_offsetBy 13 = .ok (.bipush (-99), 2) := by decide +kernel
theorem dX7_offsetBy_15 : decode cX7_offsetBy 15 = .ok (.bipush 99, 2) := by decide +kernel
theorem dX7_offsetBy_17 : decode cX7_offsetBy 17 = .ok (.invokestatic 92, 3) := by decide +kernel
theorem dX7_offsetBy_20 : decode cX7_offsetBy 20 = .ok (.ireturn, 1) := by decide +kernel
set_option maxRecDepth 100000 in
set_option maxHeartbeats 4000000 in
theorem c_X7_offsetBy {l : Launch} {D : q_D} (τ : q_T) (σ : q_V) (a0 : Nat) (x1 : Int32) (x2 : Int32) (hI : q_I τ σ) (tA0 : τ a0 = some (6, 1)) (rA1 : q_r x1 0 1) (rA2 : q_r x2 0 63) : q_Cp l D yX7_offsetBy cX7_offsetBy 3 (some .int) 2 43 τ σ [.ref a0, .int x1, .int x2] (fun r => (q_r r (-99) 99) ∧ (r.toInt = f_X7_offsetBy (fx_N σ) a0 x1.toInt x2.toInt)) := by
  refine q_meti rfl (Nat.le_of_ble_eq_true rfl) (fun X hG hE => ?_)
  show q_O X 0 0 τ σ 0 [(0, .ref a0), (1, .int x1), (2, .int x2)] []
  obtain ⟨Fv, hF⟩ : ∃ z, fx_eq z (f_X7_offsetBy (fx_N σ) a0 x1.toInt x2.toInt) := ⟨_, fx_rf⟩
  have hF0 := hF
  unfold f_X7_offsetBy at hF
  refine q_aload_n (pc := 0) hG dX7_offsetBy_0 0 rfl ?_
  refine q_getR (pc := 1) (k2 := 118) (n2 := 64) hG fl_X7_15 dX7_offsetBy_1 hI tA0 ff_6_1 (fun b1 f1 T1 => ?_)
  replace hF := fx_R hF f1 rfl
  refine q_iload_n (pc := 4) hG dX7_offsetBy_4 2 rfl ?_
  refine q_iald (pc := 5) hG dX7_offsetBy_5 hI ai_118 T1 (q_ix rA2 (by decide)) (fun v5 f5 g5 => ?_)
  replace hF := fx_I hF f5 rfl
  refine q_aload_n (pc := 6) hG dX7_offsetBy_6 0 rfl ?_
  refine q_getR (pc := 7) (k2 := 126) (n2 := 2) hG fl_X7_50 dX7_offsetBy_7 hI tA0 ff_6_12 (fun b7 f7 T7 => ?_)
  replace hF := fx_R hF f7 rfl
  refine q_iload_n (pc := 10) hG dX7_offsetBy_10 1 rfl ?_
  refine q_iald (pc := 11) hG dX7_offsetBy_11 hI ai_126 T7 (q_ix rA1 (by decide)) (fun v11 f11 g11 => ?_)
  replace hF := fx_I hF f11 rfl
  refine q_iadd (pc := 12) hG dX7_offsetBy_12 (fun v12 e12 => ?_)
  replace hF := fx_B_add hF rfl rfl e12
  refine q_bipush (pc := 13) hG dX7_offsetBy_13 kb_m99 ?_
  refine q_bipush (pc := 15) hG dX7_offsetBy_15 kb_99 ?_
  refine q_pN (pc := 17) [.int v12, .int (-99), .int 99] [] hG (c_X11_heldIn τ σ v12 (-99) 99 hI) my_X11_heldIn w460 nw_14 dX7_offsetBy_17 rfl rfl (Nat.le_of_ble_eq_true rfl) (by decide) (fun v17 p17 => ?_)
  have fq17 := p17.2.1
  rewrite [tl_m99, tl_99] at fq17
  replace hF := fx_E hF fq17
  have r_1 := q_heldN (lo := (-99)) (hi := 99) p17.2.2.1 (q_r_any v12) rl_m99 rl_99 (by decide) p17.2.2.2
  exact q_irt hG hE dX7_offsetBy_20 ⟨rfl, r_1, (fx_end hF hF0)⟩
theorem dX7_nextFor_0 : decode cX7_nextFor 0 = .ok (.iconst 0, 1) := by decide +kernel
theorem dX7_nextFor_1 : decode cX7_nextFor 1 = .ok (.istore_n 2, 1) := by decide +kernel
theorem dX7_nextFor_2 : decode cX7_nextFor 2 = .ok (.iload_n 2, 1) := by decide +kernel
theorem dX7_nextFor_3 : decode cX7_nextFor 3 = .ok (.aload_n 0, 1) := by decide +kernel
theorem dX7_nextFor_4 : decode cX7_nextFor 4 = .ok (.getfield 9, 3) := by decide +kernel
theorem dX7_nextFor_7 : decode cX7_nextFor 7 = .ok (.if_icmp .ge 44, 3) := by decide +kernel
theorem dX7_nextFor_10 : decode cX7_nextFor 10 = .ok (.iload_n 1, 1) := by decide +kernel
theorem dX7_nextFor_11 : decode cX7_nextFor 11 = .ok (.ifCond .ne 7, 3) := by decide +kernel
theorem dX7_nextFor_14 : decode cX7_nextFor 14 = .ok (.iload_n 2, 1) := by decide +kernel
theorem dX7_nextFor_15 : decode cX7_nextFor 15 = .ok (.goto 11, 3) := by decide +kernel
theorem dX7_nextFor_18 : decode cX7_nextFor 18 = .ok (.aload_n 0, 1) := by decide +kernel
theorem dX7_nextFor_19 : decode cX7_nextFor 19 = .ok (.getfield 9, 3) := by decide +kernel
theorem dX7_nextFor_22 : decode cX7_nextFor 22 = .ok (.iconst 1, 1) := by decide +kernel
theorem dX7_nextFor_23 : decode cX7_nextFor 23 = .ok (.isub, 1) := by decide +kernel
theorem dX7_nextFor_24 : decode cX7_nextFor 24 = .ok (.iload_n 2, 1) := by decide +kernel
theorem dX7_nextFor_25 : decode cX7_nextFor 25 = .ok (.isub, 1) := by decide +kernel
theorem dX7_nextFor_26 : decode cX7_nextFor 26 = .ok (.istore_n 3, 1) := by decide +kernel
theorem dX7_nextFor_27 : decode cX7_nextFor 27 = .ok (.aload_n 0, 1) := by decide +kernel
theorem dX7_nextFor_28 : decode cX7_nextFor 28 = .ok (.iload_n 3, 1) := by decide +kernel
theorem dX7_nextFor_29 : decode cX7_nextFor 29 = .ok (.invokevirtual 85, 3) := by decide +kernel
theorem dX7_nextFor_32 : decode cX7_nextFor 32 = .ok (.ifCond .ne 13, 3) := by decide +kernel
theorem dX7_nextFor_35 : decode cX7_nextFor 35 = .ok (.aload_n 0, 1) := by decide +kernel
theorem dX7_nextFor_36 : decode cX7_nextFor 36 = .ok (.iload_n 3, 1) := by decide +kernel
theorem dX7_nextFor_37 : decode cX7_nextFor 37 = .ok (.invokevirtual 96, 3) := by decide +kernel
theorem dX7_nextFor_40 : decode cX7_nextFor 40 = .ok (.ifCond .ne 5, 3) := by decide +kernel
theorem dX7_nextFor_43 : decode cX7_nextFor 43 = .ok (.iload_n 3, 1) := by decide +kernel
theorem dX7_nextFor_44 : decode cX7_nextFor 44 = .ok (.ireturn, 1) := by decide +kernel
theorem dX7_nextFor_45 : decode cX7_nextFor 45 = .ok (.iinc 2 1, 3) := by decide +kernel
theorem dX7_nextFor_48 : decode cX7_nextFor 48 = .ok (.goto (-46), 3) := by decide +kernel
theorem dX7_nextFor_51 : decode cX7_nextFor 51 = .ok (.bipush (-2), 2) := by decide +kernel
theorem dX7_nextFor_53 : decode cX7_nextFor 53 = .ok (.ireturn, 1) := by decide +kernel
set_option maxRecDepth 100000 in
set_option maxHeartbeats 4000000 in
theorem c_X7_nextFor {l : Launch} {D : q_D} (τ : q_T) (σ : q_V) (a0 : Nat) (x1 : Int32) (hI : q_I τ σ) (tA0 : τ a0 = some (6, 1)) : q_Cp l D yX7_nextFor cX7_nextFor 4 (some .int) 2 43 τ σ [.ref a0, .int x1] (fun r => (q_r r (-2) 63) ∧ (r.toInt = f_X7_nextFor (fx_N σ) a0 x1.toInt)) := by
  refine q_meti rfl (Nat.le_of_ble_eq_true rfl) (fun X hG hE => ?_)
  show q_O X 0 0 τ σ 0 [(0, .ref a0), (1, .int x1)] []
  obtain ⟨Fv, hF⟩ : ∃ z, fx_eq z (f_X7_nextFor (fx_N σ) a0 x1.toInt) := ⟨_, fx_rf⟩
  have hF0 := hF
  unfold f_X7_nextFor at hF
  refine q_iconst (pc := 0) hG dX7_nextFor_0 ki_0 ?_
  refine q_istore_n (pc := 1) [(2, .int 0), (0, .ref a0), (1, .int x1)] hG dX7_nextFor_1 (by decide) rfl ?_
  have J2 : ∀ (n2 : Nat) (p2_2 : Int32), (q_r p2_2 0 64) → (fx_eq Fv (kL_X7_nextFor_2 (fx_N σ) a0 x1.toInt n2 p2_2.toInt)) → ((64 - p2_2.toInt).toNat < n2) → q_O X 0 0 τ σ 2 [(0, .ref a0), (1, .int x1), (2, .int p2_2)] [] := by
    intro n2
    induction n2 with
    | zero => intro p2_2 r2_2 hF hm2; exact absurd hm2 (Nat.not_lt_zero _)
    | succ n2 ih2 =>
      intro p2_2 r2_2 hF hm2
      replace hF := (show fx_eq Fv (kB_X7_nextFor_2 (kL_X7_nextFor_2 (fx_N σ) a0 x1.toInt n2) (fx_N σ) a0 x1.toInt p2_2.toInt) from hF)
      unfold kB_X7_nextFor_2 at hF
      refine q_iload_n (pc := 2) hG dX7_nextFor_2 2 rfl ?_
      refine q_aload_n (pc := 3) hG dX7_nextFor_3 0 rfl ?_
      refine q_getI (pc := 4) hG fl_X7_9 dX7_nextFor_4 hI tA0 ff_6_0 (fun v4 f4 g4 => ?_)
      replace hF := fx_I hF f4 rfl
      refine q_icmp_ge (pc := 7) hG 51 dX7_nextFor_7 rfl ?_ ?_
      · intro c7
        replace hF := fx_lt2 hF rfl rfl c7
        refine q_bipush (pc := 51) hG dX7_nextFor_51 kb_m2 ?_
        exact q_irt hG hE dX7_nextFor_53 ⟨rfl, (q_r.mono rl_m2 (by decide)), (by rw [tl_m2]; exact fx_end hF hF0)⟩
      intro c7
      replace hF := fx_lt1 hF rfl rfl c7
      refine q_iload_n (pc := 10) hG dX7_nextFor_10 1 rfl ?_
      have J26 : ∀ (p26_s0 : Int32), (q_r p26_s0 0 63) → (fx_eq Fv (kJ_X7_nextFor_26 (fx_N σ) a0 p2_2.toInt (kL_X7_nextFor_2 (fx_N σ) a0 x1.toInt n2) p26_s0.toInt)) → q_O X 0 0 τ σ 26 [(0, .ref a0), (1, .int x1), (2, .int p2_2)] [.int p26_s0] := by
        intro p26_s0 r26_s0 hF
        unfold kJ_X7_nextFor_26 at hF
        refine q_istore_n (pc := 26) [(3, .int p26_s0), (0, .ref a0), (1, .int x1), (2, .int p2_2)] hG dX7_nextFor_26 (by decide) rfl ?_
        refine q_aload_n (pc := 27) hG dX7_nextFor_27 1 rfl ?_
        refine q_iload_n (pc := 28) hG dX7_nextFor_28 0 rfl ?_
        refine q_pV (pc := 29) [.int p26_s0] [] hG (c_X7_isPainted τ σ a0 p26_s0 hI tA0 r26_s0) my_X7_isPainted mv_X7_isPainted w410 dX7_nextFor_29 tA0 (by decide) rfl rfl (Nat.le_of_ble_eq_true rfl) (by decide) (fun v29 p29 => ?_)
        replace hF := fx_E hF p29.2
        have J45 : (fx_eq Fv (kJ_X7_nextFor_45 p2_2.toInt (kL_X7_nextFor_2 (fx_N σ) a0 x1.toInt n2))) → q_O X 0 0 τ σ 45 [(0, .ref a0), (1, .int x1), (2, .int p2_2)] [] := by
          intro hF
          unfold kJ_X7_nextFor_45 at hF
          obtain ⟨v45, e45⟩ : ∃ z : Int32, z = p2_2 + Int32.ofInt 1 := ⟨_, rfl⟩
          have r_1 := q_rlt r2_2 g4 c7 63 (by decide)
          have h45 := q_incN (lo := 1) (hi := 64) r_1 (by decide) (by decide) e45
          replace hF := fx_add hF rfl rfl h45.1
          refine q_iinc (pc := 45) [(2, .int v45), (0, .ref a0), (1, .int x1)] hG dX7_nextFor_45 2 rfl e45 (by decide) rfl ?_
          refine q_goto (pc := 48) 2 hG dX7_nextFor_48 rfl ?_
          refine q_lv [1, 2, 0] rfl ?_
          exact ih2 v45 (q_r.mono h45.2 (by decide)) hF (q_measU hm2 (by have o0 := c7; have o1 := h45.1; have o2 := r_1; have o3 := g4; have o4 := h45.2; unfold q_r at o2 o3 o4; omega) (h45.2).2)
        refine q_if_ne (pc := 32) hG 45 dX7_nextFor_32 rfl ?_ ?_
        · intro c32
          replace hF := fx_eq2 hF rfl rfl c32
          refine q_lv [1, 2, 3] rfl ?_
          exact J45 hF
        intro c32
        replace hF := fx_eq1 hF rfl rfl c32
        refine q_aload_n (pc := 35) hG dX7_nextFor_35 1 rfl ?_
        refine q_iload_n (pc := 36) hG dX7_nextFor_36 0 rfl ?_
        refine q_pV (pc := 37) [.int p26_s0] [] hG (c_X7_isBeingPainted τ σ a0 p26_s0 hI tA0) my_X7_isBeingPainted mv_X7_isBeingPainted w411 dX7_nextFor_37 tA0 (by decide) rfl rfl (Nat.le_of_ble_eq_true rfl) (by decide) (fun v37 p37 => ?_)
        replace hF := fx_E hF p37.2
        refine q_if_ne (pc := 40) hG 45 dX7_nextFor_40 rfl ?_ ?_
        · intro c40
          replace hF := fx_eq2 hF rfl rfl c40
          refine q_lv [1, 2, 3] rfl ?_
          exact J45 hF
        intro c40
        replace hF := fx_eq1 hF rfl rfl c40
        refine q_iload_n (pc := 43) hG dX7_nextFor_43 0 rfl ?_
        exact q_irt hG hE dX7_nextFor_44 ⟨rfl, (q_r.mono r26_s0 (by decide)), (fx_end hF hF0)⟩
      refine q_if_ne (pc := 11) hG 18 dX7_nextFor_11 rfl ?_ ?_
      · intro c11
        replace hF := fx_eq2 hF rfl rfl c11
        refine q_aload_n (pc := 18) hG dX7_nextFor_18 0 rfl ?_
        refine q_getV (pc := 19) (v := .int v4) hG fl_X7_9 dX7_nextFor_19 tA0 f4 ?_
        refine q_iconst (pc := 22) hG dX7_nextFor_22 ki_1 ?_
        refine q_isub (pc := 23) hG dX7_nextFor_23 (fun v23 e23 => ?_)
        replace hF := fx_sub hF rfl tl_1 (q_subN (lo := 7) (hi := 63) e23 g4 rl_1 (by decide)).1
        refine q_iload_n (pc := 24) hG dX7_nextFor_24 2 rfl ?_
        refine q_isub (pc := 25) hG dX7_nextFor_25 (fun v25 e25 => ?_)
        have r_2 := (q_subN (lo := 7) (hi := 63) e23 g4 rl_1 (by decide)).2
        have r_3 := q_rlt r2_2 g4 c7 63 (by decide)
        replace hF := fx_sub hF rfl rfl (q_subN (lo := (-56)) (hi := 63) e25 r_2 r_3 (by decide)).1
        refine q_lv [0, 1, 2] rfl ?_
        have r_4 := (q_subN (lo := (-56)) (hi := 63) e25 r_2 r_3 (by decide)).2
        exact J26 v25 (show q_r v25 0 63 from ⟨(by have o0 := (q_subN (lo := (-56)) (hi := 63) e25 r_2 r_3 (by decide)).1; have o1 := c7; have o2 := (q_subN (lo := 7) (hi := 63) e23 g4 rl_1 (by decide)).1; have o3 := r_3; have o4 := r_2; have o5 := r_4; have o6 := g4; have l7 := tl_1; unfold q_r at o3 o4 o5 o6; omega), (by have o0 := (q_subN (lo := (-56)) (hi := 63) e25 r_2 r_3 (by decide)).1; have o1 := c7; have o2 := (q_subN (lo := 7) (hi := 63) e23 g4 rl_1 (by decide)).1; have o3 := r_3; have o4 := r_2; have o5 := r_4; have o6 := g4; have l7 := tl_1; unfold q_r at o3 o4 o5 o6; omega)⟩) hF
      intro c11
      replace hF := fx_eq1 hF rfl rfl c11
      refine q_iload_n (pc := 14) hG dX7_nextFor_14 2 rfl ?_
      refine q_goto (pc := 15) 26 hG dX7_nextFor_15 rfl ?_
      refine q_lv [0, 1, 2] rfl ?_
      have r_5 := q_rlt r2_2 g4 c7 63 (by decide)
      exact J26 p2_2 r_5 hF
  refine q_lv [1, 2, 0] rfl ?_
  exact J2 ((64 - (0 : Int32).toInt).toNat + 1) 0 (q_r.mono rl_0 (by decide)) (by rw [tl_0]; exact hF) (Nat.lt_succ_self _)
theorem dX7_wetDots_0 : decode cX7_wetDots 0 = .ok (.iconst 0, 1) := by decide +kernel
theorem dX7_wetDots_1 : decode cX7_wetDots 1 = .ok (.istore_n 1, 1) := by decide +kernel
theorem dX7_wetDots_2 : decode cX7_wetDots 2 = .ok (.iconst 0, 1) := by decide +kernel
theorem dX7_wetDots_3 : decode cX7_wetDots 3 = .ok (.istore_n 2, 1) := by decide +kernel
theorem dX7_wetDots_4 : decode cX7_wetDots 4 = .ok (.iload_n 2, 1) := by decide +kernel
theorem dX7_wetDots_5 : decode cX7_wetDots 5 = .ok (.aload_n 0, 1) := by decide +kernel
theorem dX7_wetDots_6 : decode cX7_wetDots 6 = .ok (.getfield 9, 3) := by decide +kernel
theorem dX7_wetDots_9 : decode cX7_wetDots 9 = .ok (.if_icmp .ge 25, 3) := by decide +kernel
theorem dX7_wetDots_12 : decode cX7_wetDots 12 = .ok (.iload_n 1, 1) := by decide +kernel
theorem dX7_wetDots_13 : decode cX7_wetDots 13 = .ok (.aload_n 0, 1) := by decide +kernel
theorem dX7_wetDots_14 : decode cX7_wetDots 14 = .ok (.iload_n 2, 1) := by decide +kernel
theorem dX7_wetDots_15 : decode cX7_wetDots 15 = .ok (.invokevirtual 106, 3) := by decide +kernel
theorem dX7_wetDots_18 : decode cX7_wetDots 18 = .ok (.ifCond .eq 7, 3) := by decide +kernel
theorem dX7_wetDots_21 : decode cX7_wetDots 21 = .ok (.iconst 1, 1) := by decide +kernel
theorem dX7_wetDots_22 : decode cX7_wetDots 22 = .ok (.goto 4, 3) := by decide +kernel
theorem dX7_wetDots_25 : decode cX7_wetDots 25 = .ok (.iconst 0, 1) := by decide +kernel
theorem dX7_wetDots_26 : decode cX7_wetDots 26 = .ok (.iadd, 1) := by decide +kernel
theorem dX7_wetDots_27 : decode cX7_wetDots 27 = .ok (.istore_n 1, 1) := by decide +kernel
theorem dX7_wetDots_28 : decode cX7_wetDots 28 = .ok (.iinc 2 1, 3) := by decide +kernel
theorem dX7_wetDots_31 : decode cX7_wetDots 31 = .ok (.goto (-27), 3) := by decide +kernel
theorem dX7_wetDots_34 : decode cX7_wetDots 34 = .ok (.iload_n 1, 1) := by decide +kernel
theorem dX7_wetDots_35 : decode cX7_wetDots 35 = .ok (.ireturn, 1) := by decide +kernel
set_option maxRecDepth 100000 in
set_option maxHeartbeats 4000000 in
theorem c_X7_wetDots {l : Launch} {D : q_D} (τ : q_T) (σ : q_V) (a0 : Nat) (hI : q_I τ σ) (tA0 : τ a0 = some (6, 1)) : q_Cp l D yX7_wetDots cX7_wetDots 3 (some .int) 2 42 τ σ [.ref a0] (fun r => (q_r r (-2147483648) 2147483647) ∧ (r.toInt = f_X7_wetDots (fx_N σ) a0)) := by
  refine q_meti rfl (Nat.le_of_ble_eq_true rfl) (fun X hG hE => ?_)
  show q_O X 0 0 τ σ 0 [(0, .ref a0)] []
  obtain ⟨Fv, hF⟩ : ∃ z, fx_eq z (f_X7_wetDots (fx_N σ) a0) := ⟨_, fx_rf⟩
  have hF0 := hF
  unfold f_X7_wetDots at hF
  refine q_iconst (pc := 0) hG dX7_wetDots_0 ki_0 ?_
  refine q_istore_n (pc := 1) [(1, .int 0), (0, .ref a0)] hG dX7_wetDots_1 (by decide) rfl ?_
  refine q_iconst (pc := 2) hG dX7_wetDots_2 ki_0 ?_
  refine q_istore_n (pc := 3) [(2, .int 0), (1, .int 0), (0, .ref a0)] hG dX7_wetDots_3 (by decide) rfl ?_
  have J4 : ∀ (n4 : Nat) (p4_1 : Int32) (p4_2 : Int32), (q_r p4_2 0 64) → (fx_eq Fv (kL_X7_wetDots_4 (fx_N σ) a0 n4 p4_1.toInt p4_2.toInt)) → ((64 - p4_2.toInt).toNat < n4) → q_O X 0 0 τ σ 4 [(0, .ref a0), (1, .int p4_1), (2, .int p4_2)] [] := by
    intro n4
    induction n4 with
    | zero => intro p4_1 p4_2 r4_2 hF hm4; exact absurd hm4 (Nat.not_lt_zero _)
    | succ n4 ih4 =>
      intro p4_1 p4_2 r4_2 hF hm4
      replace hF := (show fx_eq Fv (kB_X7_wetDots_4 (kL_X7_wetDots_4 (fx_N σ) a0 n4) (fx_N σ) a0 p4_1.toInt p4_2.toInt) from hF)
      unfold kB_X7_wetDots_4 at hF
      refine q_iload_n (pc := 4) hG dX7_wetDots_4 2 rfl ?_
      refine q_aload_n (pc := 5) hG dX7_wetDots_5 0 rfl ?_
      refine q_getI (pc := 6) hG fl_X7_9 dX7_wetDots_6 hI tA0 ff_6_0 (fun v6 f6 g6 => ?_)
      replace hF := fx_I hF f6 rfl
      refine q_icmp_ge (pc := 9) hG 34 dX7_wetDots_9 rfl ?_ ?_
      · intro c9
        replace hF := fx_lt2 hF rfl rfl c9
        refine q_iload_n (pc := 34) hG dX7_wetDots_34 1 rfl ?_
        exact q_irt hG hE dX7_wetDots_35 ⟨rfl, (q_r_any p4_1), (fx_end hF hF0)⟩
      intro c9
      replace hF := fx_lt1 hF rfl rfl c9
      refine q_iload_n (pc := 12) hG dX7_wetDots_12 1 rfl ?_
      refine q_aload_n (pc := 13) hG dX7_wetDots_13 0 rfl ?_
      refine q_iload_n (pc := 14) hG dX7_wetDots_14 2 rfl ?_
      have r_1 := q_rlt r4_2 g6 c9 63 (by decide)
      refine q_pV (pc := 15) [.int p4_2] [.int p4_1] hG (c_X7_isWet τ σ a0 p4_2 hI tA0 r_1) my_X7_isWet mv_X7_isWet w427 dX7_wetDots_15 tA0 (by decide) rfl rfl (Nat.le_of_ble_eq_true rfl) (by decide) (fun v15 p15 => ?_)
      replace hF := fx_E hF p15.2
      have J26 : ∀ (p26_s0 : Int32), (q_r p26_s0 0 1) → (fx_eq Fv (kJ_X7_wetDots_26 p4_1.toInt p4_2.toInt (kL_X7_wetDots_4 (fx_N σ) a0 n4) p26_s0.toInt)) → q_O X 0 0 τ σ 26 [(0, .ref a0), (2, .int p4_2)] [.int p26_s0, .int p4_1] := by
        intro p26_s0 r26_s0 hF
        unfold kJ_X7_wetDots_26 at hF
        refine q_iadd (pc := 26) hG dX7_wetDots_26 (fun v26 e26 => ?_)
        replace hF := fx_B_add hF rfl rfl e26
        refine q_istore_n (pc := 27) [(1, .int v26), (0, .ref a0), (2, .int p4_2)] hG dX7_wetDots_27 (by decide) rfl ?_
        obtain ⟨v28, e28⟩ : ∃ z : Int32, z = p4_2 + Int32.ofInt 1 := ⟨_, rfl⟩
        have h28 := q_incN (lo := 1) (hi := 64) r_1 (by decide) (by decide) e28
        replace hF := fx_add hF rfl rfl h28.1
        refine q_iinc (pc := 28) [(2, .int v28), (1, .int v26), (0, .ref a0)] hG dX7_wetDots_28 2 rfl e28 (by decide) rfl ?_
        refine q_goto (pc := 31) 4 hG dX7_wetDots_31 rfl ?_
        refine q_lv [2, 1, 0] rfl ?_
        exact ih4 v26 v28 (q_r.mono h28.2 (by decide)) hF (q_measU hm4 (by have o0 := c9; have o1 := h28.1; have o2 := r_1; have o3 := h28.2; have o4 := g6; unfold q_r at o2 o3 o4; omega) (h28.2).2)
      refine q_if_eq (pc := 18) hG 25 dX7_wetDots_18 rfl ?_ ?_
      · intro c18
        replace hF := fx_eq1 hF rfl rfl c18
        refine q_iconst (pc := 25) hG dX7_wetDots_25 ki_0 ?_
        refine q_lv [0, 2] rfl ?_
        exact J26 0 (q_r.mono rl_0 (by decide)) (by rw [tl_0]; exact hF)
      intro c18
      replace hF := fx_eq2 hF rfl rfl c18
      refine q_iconst (pc := 21) hG dX7_wetDots_21 ki_1 ?_
      refine q_goto (pc := 22) 26 hG dX7_wetDots_22 rfl ?_
      refine q_lv [0, 2] rfl ?_
      exact J26 1 (q_r.mono rl_1 (by decide)) (by rw [tl_1]; exact hF)
  refine q_lv [2, 1, 0] rfl ?_
  exact J4 ((64 - (0 : Int32).toInt).toNat + 1) 0 0 (q_r.mono rl_0 (by decide)) (by rw [tl_0]; exact hF) (Nat.lt_succ_self _)
theorem dX7_conesInUse_0 : decode cX7_conesInUse 0 = .ok (.aload_n 0, 1) := by decide +kernel
theorem dX7_conesInUse_1 : decode cX7_conesInUse 1 = .ok (.invokevirtual 99, 3) := by decide +kernel
theorem dX7_conesInUse_4 : decode cX7_conesInUse 4 = .ok (.istore_n 1, 1) := by decide +kernel
theorem dX7_conesInUse_5 : decode cX7_conesInUse 5 = .ok (.iconst 0, 1) := by decide +kernel
theorem dX7_conesInUse_6 : decode cX7_conesInUse 6 = .ok (.istore_n 2, 1) := by decide +kernel
theorem dX7_conesInUse_7 : decode cX7_conesInUse 7 = .ok (.iload_n 2, 1) := by decide +kernel
theorem dX7_conesInUse_8 : decode cX7_conesInUse 8 = .ok (.iconst 2, 1) := by decide +kernel
theorem dX7_conesInUse_9 : decode cX7_conesInUse 9 = .ok (.if_icmp .ge 28, 3) := by decide +kernel
theorem dX7_conesInUse_12 : decode cX7_conesInUse 12 = .ok (.iload_n 1, 1) := by decide +kernel
theorem dX7_conesInUse_13 : decode cX7_conesInUse 13 = .ok (.aload_n 0, 1) := by decide +kernel
theorem dX7_conesInUse_14 : decode cX7_conesInUse 14 = .ok (.getfield 44, 3) := by decide +kernel
theorem dX7_conesInUse_17 : decode cX7_conesInUse 17 = .ok (.iload_n 2, 1) := by decide +kernel
theorem dX7_conesInUse_18 : decode cX7_conesInUse 18 = .ok (.iaload, 1) := by decide +kernel
theorem dX7_conesInUse_19 : decode cX7_conesInUse 19 = .ok (.bipush (-2), 2) := by decide +kernel
theorem dX7_conesInUse_21 : decode cX7_conesInUse 21 = .ok (.if_icmp .ne 7, 3) := by decide +kernel
theorem dX7_conesInUse_24 : decode cX7_conesInUse 24 = .ok (.iconst 0, 1) := by decide +kernel
theorem dX7_conesInUse_25 : decode cX7_conesInUse 25 = .ok (.goto 4, 3) := by decide +kernel
theorem dX7_conesInUse_28 : decode cX7_conesInUse 28 = .ok (.iconst 1, 1) := by decide +kernel
theorem dX7_conesInUse_29 : decode cX7_conesInUse 29 = .ok (.iadd, 1) := by decide +kernel
theorem dX7_conesInUse_30 : decode cX7_conesInUse 30 = .ok (.istore_n 1, 1) := by decide +kernel
theorem dX7_conesInUse_31 : decode cX7_conesInUse 31 = .ok (.iinc 2 1, 3) := by decide +kernel
theorem dX7_conesInUse_34 : decode cX7_conesInUse 34 = .ok (.goto (-27), 3) := by decide +kernel
theorem dX7_conesInUse_37 : decode cX7_conesInUse 37 = .ok (.iload_n 1, 1) := by decide +kernel
theorem dX7_conesInUse_38 : decode cX7_conesInUse 38 = .ok (.ireturn, 1) := by decide +kernel
set_option maxRecDepth 100000 in
set_option maxHeartbeats 4000000 in
theorem c_X7_conesInUse {l : Launch} {D : q_D} (τ : q_T) (σ : q_V) (a0 : Nat) (hI : q_I τ σ) (tA0 : τ a0 = some (6, 1)) : q_Cp l D yX7_conesInUse cX7_conesInUse 3 (some .int) 3 64 τ σ [.ref a0] (fun r => (q_r r (-2147483648) 2147483647) ∧ (r.toInt = f_X7_conesInUse (fx_N σ) a0)) := by
  refine q_meti rfl (Nat.le_of_ble_eq_true rfl) (fun X hG hE => ?_)
  show q_O X 0 0 τ σ 0 [(0, .ref a0)] []
  obtain ⟨Fv, hF⟩ : ∃ z, fx_eq z (f_X7_conesInUse (fx_N σ) a0) := ⟨_, fx_rf⟩
  have hF0 := hF
  unfold f_X7_conesInUse at hF
  refine q_aload_n (pc := 0) hG dX7_conesInUse_0 0 rfl ?_
  refine q_pV (pc := 1) [] [] hG (c_X7_wetDots τ σ a0 hI tA0) my_X7_wetDots mv_X7_wetDots w423 dX7_conesInUse_1 tA0 (by decide) rfl rfl (Nat.le_of_ble_eq_true rfl) (by decide) (fun v1 p1 => ?_)
  replace hF := fx_E hF p1.2
  refine q_istore_n (pc := 4) [(1, .int v1), (0, .ref a0)] hG dX7_conesInUse_4 (by decide) rfl ?_
  refine q_iconst (pc := 5) hG dX7_conesInUse_5 ki_0 ?_
  refine q_istore_n (pc := 6) [(2, .int 0), (1, .int v1), (0, .ref a0)] hG dX7_conesInUse_6 (by decide) rfl ?_
  have J7 : ∀ (n7 : Nat) (p7_1 : Int32) (p7_2 : Int32), (q_r p7_2 0 2) → (fx_eq Fv (kL_X7_conesInUse_7 (fx_N σ) a0 n7 p7_1.toInt p7_2.toInt)) → ((2 - p7_2.toInt).toNat < n7) → q_O X 0 0 τ σ 7 [(0, .ref a0), (1, .int p7_1), (2, .int p7_2)] [] := by
    intro n7
    induction n7 with
    | zero => intro p7_1 p7_2 r7_2 hF hm7; exact absurd hm7 (Nat.not_lt_zero _)
    | succ n7 ih7 =>
      intro p7_1 p7_2 r7_2 hF hm7
      replace hF := (show fx_eq Fv (kB_X7_conesInUse_7 (kL_X7_conesInUse_7 (fx_N σ) a0 n7) (fx_N σ) a0 p7_1.toInt p7_2.toInt) from hF)
      unfold kB_X7_conesInUse_7 at hF
      refine q_iload_n (pc := 7) hG dX7_conesInUse_7 2 rfl ?_
      refine q_iconst (pc := 8) hG dX7_conesInUse_8 ki_2 ?_
      refine q_icmp_ge (pc := 9) hG 37 dX7_conesInUse_9 rfl ?_ ?_
      · intro c9
        replace hF := fx_lt2 hF rfl tl_2 c9
        refine q_iload_n (pc := 37) hG dX7_conesInUse_37 1 rfl ?_
        exact q_irt hG hE dX7_conesInUse_38 ⟨rfl, (q_r_any p7_1), (fx_end hF hF0)⟩
      intro c9
      replace hF := fx_lt1 hF rfl tl_2 c9
      refine q_iload_n (pc := 12) hG dX7_conesInUse_12 1 rfl ?_
      refine q_aload_n (pc := 13) hG dX7_conesInUse_13 0 rfl ?_
      refine q_getR (pc := 14) (k2 := 124) (n2 := 2) hG fl_X7_44 dX7_conesInUse_14 hI tA0 ff_6_10 (fun b14 f14 T14 => ?_)
      replace hF := fx_R hF f14 rfl
      refine q_iload_n (pc := 17) hG dX7_conesInUse_17 2 rfl ?_
      have r_1 := q_rlt r7_2 rl_2 c9 1 (by decide)
      refine q_iald (pc := 18) hG dX7_conesInUse_18 hI ai_124 T14 (q_ix r_1 (by decide)) (fun v18 f18 g18 => ?_)
      replace hF := fx_I hF f18 rfl
      refine q_bipush (pc := 19) hG dX7_conesInUse_19 kb_m2 ?_
      have J29 : ∀ (p29_s0 : Int32), (q_r p29_s0 0 1) → (fx_eq Fv (kJ_X7_conesInUse_29 p7_1.toInt p7_2.toInt (kL_X7_conesInUse_7 (fx_N σ) a0 n7) p29_s0.toInt)) → q_O X 0 0 τ σ 29 [(0, .ref a0), (2, .int p7_2)] [.int p29_s0, .int p7_1] := by
        intro p29_s0 r29_s0 hF
        unfold kJ_X7_conesInUse_29 at hF
        refine q_iadd (pc := 29) hG dX7_conesInUse_29 (fun v29 e29 => ?_)
        replace hF := fx_B_add hF rfl rfl e29
        refine q_istore_n (pc := 30) [(1, .int v29), (0, .ref a0), (2, .int p7_2)] hG dX7_conesInUse_30 (by decide) rfl ?_
        obtain ⟨v31, e31⟩ : ∃ z : Int32, z = p7_2 + Int32.ofInt 1 := ⟨_, rfl⟩
        have h31 := q_incN (lo := 1) (hi := 2) r_1 (by decide) (by decide) e31
        replace hF := fx_add hF rfl rfl h31.1
        refine q_iinc (pc := 31) [(2, .int v31), (1, .int v29), (0, .ref a0)] hG dX7_conesInUse_31 2 rfl e31 (by decide) rfl ?_
        refine q_goto (pc := 34) 7 hG dX7_conesInUse_34 rfl ?_
        refine q_lv [2, 1, 0] rfl ?_
        exact ih7 v29 v31 (q_r.mono h31.2 (by decide)) hF (q_measU hm7 (by have o0 := c9; have o1 := h31.1; have o2 := r_1; have o3 := h31.2; have l4 := tl_2; unfold q_r at o2 o3; omega) (h31.2).2)
      refine q_icmp_ne (pc := 21) hG 28 dX7_conesInUse_21 rfl ?_ ?_
      · intro c21
        replace hF := fx_eq2 hF rfl tl_m2 c21
        refine q_iconst (pc := 28) hG dX7_conesInUse_28 ki_1 ?_
        refine q_lv [0, 2] rfl ?_
        exact J29 1 (q_r.mono rl_1 (by decide)) (by rw [tl_1]; exact hF)
      intro c21
      replace hF := fx_eq1 hF rfl tl_m2 c21
      refine q_iconst (pc := 24) hG dX7_conesInUse_24 ki_0 ?_
      refine q_goto (pc := 25) 29 hG dX7_conesInUse_25 rfl ?_
      refine q_lv [0, 2] rfl ?_
      exact J29 0 (q_r.mono rl_0 (by decide)) (by rw [tl_0]; exact hF)
  refine q_lv [2, 1, 0] rfl ?_
  exact J7 ((2 - (0 : Int32).toInt).toNat + 1) v1 0 (q_r.mono rl_0 (by decide)) (by rw [tl_0]; exact hF) (Nat.lt_succ_self _)
theorem dX7_paintedDots_0 : decode cX7_paintedDots 0 = .ok (.iconst 0, 1) := by decide +kernel
theorem dX7_paintedDots_1 : decode cX7_paintedDots 1 = .ok (.istore_n 1, 1) := by decide +kernel
theorem dX7_paintedDots_2 : decode cX7_paintedDots 2 = .ok (.iconst 0, 1) := by decide +kernel
theorem dX7_paintedDots_3 : decode cX7_paintedDots 3 = .ok (.istore_n 2, 1) := by decide +kernel
theorem dX7_paintedDots_4 : decode cX7_paintedDots 4 = .ok (.iload_n 2, 1) := by decide +kernel
theorem dX7_paintedDots_5 : decode cX7_paintedDots 5 = .ok (.aload_n 0, 1) := by decide +kernel
theorem dX7_paintedDots_6 : decode cX7_paintedDots 6 = .ok (.getfield 9, 3) := by decide +kernel
theorem dX7_paintedDots_9 : decode cX7_paintedDots 9 = .ok (.if_icmp .ge 25, 3) := by decide +kernel
theorem dX7_paintedDots_12 : decode cX7_paintedDots 12 = .ok (.iload_n 1, 1) := by decide +kernel
theorem dX7_paintedDots_13 : decode cX7_paintedDots 13 = .ok (.aload_n 0, 1) := by decide +kernel
theorem dX7_paintedDots_14 : decode cX7_paintedDots 14 = .ok (.iload_n 2, 1) := by decide +kernel
theorem dX7_paintedDots_15 : decode cX7_paintedDots 15 = .ok (.invokevirtual 85, 3) := by decide +kernel
theorem dX7_paintedDots_18 : decode cX7_paintedDots 18 = .ok (.ifCond .eq 7, 3) := by decide +kernel
theorem dX7_paintedDots_21 : decode cX7_paintedDots 21 = .ok (.iconst 1, 1) := by decide +kernel
theorem dX7_paintedDots_22 : decode cX7_paintedDots 22 = .ok (.goto 4, 3) := by decide +kernel
theorem dX7_paintedDots_25 : decode cX7_paintedDots 25 = .ok (.iconst 0, 1) := by decide +kernel
theorem dX7_paintedDots_26 : decode cX7_paintedDots 26 = .ok (.iadd, 1) := by decide +kernel
theorem dX7_paintedDots_27 : decode cX7_paintedDots 27 = .ok (.istore_n 1, 1) := by decide +kernel
theorem dX7_paintedDots_28 : decode cX7_paintedDots 28 = .ok (.iinc 2 1, 3) := by decide +kernel
theorem dX7_paintedDots_31 : decode cX7_paintedDots 31 = .ok (.goto (-27), 3) := by decide +kernel
theorem dX7_paintedDots_34 : decode cX7_paintedDots 34 = .ok (.iload_n 1, 1) := by decide +kernel
theorem dX7_paintedDots_35 : decode cX7_paintedDots 35 = .ok (.ireturn, 1) := by decide +kernel
set_option maxRecDepth 100000 in
set_option maxHeartbeats 4000000 in
theorem c_X7_paintedDots {l : Launch} {D : q_D} (τ : q_T) (σ : q_V) (a0 : Nat) (hI : q_I τ σ) (tA0 : τ a0 = some (6, 1)) : q_Cp l D yX7_paintedDots cX7_paintedDots 3 (some .int) 1 21 τ σ [.ref a0] (fun r => (q_r r (-2147483648) 2147483647) ∧ (r.toInt = f_X7_paintedDots (fx_N σ) a0)) := by
  refine q_meti rfl (Nat.le_of_ble_eq_true rfl) (fun X hG hE => ?_)
  show q_O X 0 0 τ σ 0 [(0, .ref a0)] []
  obtain ⟨Fv, hF⟩ : ∃ z, fx_eq z (f_X7_paintedDots (fx_N σ) a0) := ⟨_, fx_rf⟩
  have hF0 := hF
  unfold f_X7_paintedDots at hF
  refine q_iconst (pc := 0) hG dX7_paintedDots_0 ki_0 ?_
  refine q_istore_n (pc := 1) [(1, .int 0), (0, .ref a0)] hG dX7_paintedDots_1 (by decide) rfl ?_
  refine q_iconst (pc := 2) hG dX7_paintedDots_2 ki_0 ?_
  refine q_istore_n (pc := 3) [(2, .int 0), (1, .int 0), (0, .ref a0)] hG dX7_paintedDots_3 (by decide) rfl ?_
  have J4 : ∀ (n4 : Nat) (p4_1 : Int32) (p4_2 : Int32), (q_r p4_2 0 64) → (fx_eq Fv (kL_X7_paintedDots_4 (fx_N σ) a0 n4 p4_1.toInt p4_2.toInt)) → ((64 - p4_2.toInt).toNat < n4) → q_O X 0 0 τ σ 4 [(0, .ref a0), (1, .int p4_1), (2, .int p4_2)] [] := by
    intro n4
    induction n4 with
    | zero => intro p4_1 p4_2 r4_2 hF hm4; exact absurd hm4 (Nat.not_lt_zero _)
    | succ n4 ih4 =>
      intro p4_1 p4_2 r4_2 hF hm4
      replace hF := (show fx_eq Fv (kB_X7_paintedDots_4 (kL_X7_paintedDots_4 (fx_N σ) a0 n4) (fx_N σ) a0 p4_1.toInt p4_2.toInt) from hF)
      unfold kB_X7_paintedDots_4 at hF
      refine q_iload_n (pc := 4) hG dX7_paintedDots_4 2 rfl ?_
      refine q_aload_n (pc := 5) hG dX7_paintedDots_5 0 rfl ?_
      refine q_getI (pc := 6) hG fl_X7_9 dX7_paintedDots_6 hI tA0 ff_6_0 (fun v6 f6 g6 => ?_)
      replace hF := fx_I hF f6 rfl
      refine q_icmp_ge (pc := 9) hG 34 dX7_paintedDots_9 rfl ?_ ?_
      · intro c9
        replace hF := fx_lt2 hF rfl rfl c9
        refine q_iload_n (pc := 34) hG dX7_paintedDots_34 1 rfl ?_
        exact q_irt hG hE dX7_paintedDots_35 ⟨rfl, (q_r_any p4_1), (fx_end hF hF0)⟩
      intro c9
      replace hF := fx_lt1 hF rfl rfl c9
      refine q_iload_n (pc := 12) hG dX7_paintedDots_12 1 rfl ?_
      refine q_aload_n (pc := 13) hG dX7_paintedDots_13 0 rfl ?_
      refine q_iload_n (pc := 14) hG dX7_paintedDots_14 2 rfl ?_
      have r_1 := q_rlt r4_2 g6 c9 63 (by decide)
      refine q_pV (pc := 15) [.int p4_2] [.int p4_1] hG (c_X7_isPainted τ σ a0 p4_2 hI tA0 r_1) my_X7_isPainted mv_X7_isPainted w410 dX7_paintedDots_15 tA0 (by decide) rfl rfl (Nat.le_of_ble_eq_true rfl) (by decide) (fun v15 p15 => ?_)
      replace hF := fx_E hF p15.2
      have J26 : ∀ (p26_s0 : Int32), (q_r p26_s0 0 1) → (fx_eq Fv (kJ_X7_paintedDots_26 p4_1.toInt p4_2.toInt (kL_X7_paintedDots_4 (fx_N σ) a0 n4) p26_s0.toInt)) → q_O X 0 0 τ σ 26 [(0, .ref a0), (2, .int p4_2)] [.int p26_s0, .int p4_1] := by
        intro p26_s0 r26_s0 hF
        unfold kJ_X7_paintedDots_26 at hF
        refine q_iadd (pc := 26) hG dX7_paintedDots_26 (fun v26 e26 => ?_)
        replace hF := fx_B_add hF rfl rfl e26
        refine q_istore_n (pc := 27) [(1, .int v26), (0, .ref a0), (2, .int p4_2)] hG dX7_paintedDots_27 (by decide) rfl ?_
        obtain ⟨v28, e28⟩ : ∃ z : Int32, z = p4_2 + Int32.ofInt 1 := ⟨_, rfl⟩
        have h28 := q_incN (lo := 1) (hi := 64) r_1 (by decide) (by decide) e28
        replace hF := fx_add hF rfl rfl h28.1
        refine q_iinc (pc := 28) [(2, .int v28), (1, .int v26), (0, .ref a0)] hG dX7_paintedDots_28 2 rfl e28 (by decide) rfl ?_
        refine q_goto (pc := 31) 4 hG dX7_paintedDots_31 rfl ?_
        refine q_lv [2, 1, 0] rfl ?_
        exact ih4 v26 v28 (q_r.mono h28.2 (by decide)) hF (q_measU hm4 (by have o0 := c9; have o1 := h28.1; have o2 := r_1; have o3 := h28.2; have o4 := g6; unfold q_r at o2 o3 o4; omega) (h28.2).2)
      refine q_if_eq (pc := 18) hG 25 dX7_paintedDots_18 rfl ?_ ?_
      · intro c18
        replace hF := fx_eq1 hF rfl rfl c18
        refine q_iconst (pc := 25) hG dX7_paintedDots_25 ki_0 ?_
        refine q_lv [0, 2] rfl ?_
        exact J26 0 (q_r.mono rl_0 (by decide)) (by rw [tl_0]; exact hF)
      intro c18
      replace hF := fx_eq2 hF rfl rfl c18
      refine q_iconst (pc := 21) hG dX7_paintedDots_21 ki_1 ?_
      refine q_goto (pc := 22) 26 hG dX7_paintedDots_22 rfl ?_
      refine q_lv [0, 2] rfl ?_
      exact J26 1 (q_r.mono rl_1 (by decide)) (by rw [tl_1]; exact hF)
  refine q_lv [2, 1, 0] rfl ?_
  exact J4 ((64 - (0 : Int32).toInt).toNat + 1) 0 0 (q_r.mono rl_0 (by decide)) (by rw [tl_0]; exact hF) (Nat.lt_succ_self _)
theorem dX7_spoiltDots_0 : decode cX7_spoiltDots 0 = .ok (.iconst 0, 1) := by decide +kernel
theorem dX7_spoiltDots_1 : decode cX7_spoiltDots 1 = .ok (.istore_n 1, 1) := by decide +kernel
theorem dX7_spoiltDots_2 : decode cX7_spoiltDots 2 = .ok (.iconst 0, 1) := by decide +kernel
theorem dX7_spoiltDots_3 : decode cX7_spoiltDots 3 = .ok (.istore_n 2, 1) := by decide +kernel
theorem dX7_spoiltDots_4 : decode cX7_spoiltDots 4 = .ok (.iload_n 2, 1) := by decide +kernel
theorem dX7_spoiltDots_5 : decode cX7_spoiltDots 5 = .ok (.aload_n 0, 1) := by decide +kernel
theorem dX7_spoiltDots_6 : decode cX7_spoiltDots 6 = .ok (.getfield 9, 3) := by decide +kernel
theorem dX7_spoiltDots_9 : decode cX7_spoiltDots 9 = .ok (.if_icmp .ge 25, 3) := by decide +kernel
theorem dX7_spoiltDots_12 : decode cX7_spoiltDots 12 = .ok (.iload_n 1, 1) := by decide +kernel
theorem dX7_spoiltDots_13 : decode cX7_spoiltDots 13 = .ok (.aload_n 0, 1) := by decide +kernel
theorem dX7_spoiltDots_14 : decode cX7_spoiltDots 14 = .ok (.iload_n 2, 1) := by decide +kernel
theorem dX7_spoiltDots_15 : decode cX7_spoiltDots 15 = .ok (.invokevirtual 103, 3) := by decide +kernel
theorem dX7_spoiltDots_18 : decode cX7_spoiltDots 18 = .ok (.ifCond .eq 7, 3) := by decide +kernel
theorem dX7_spoiltDots_21 : decode cX7_spoiltDots 21 = .ok (.iconst 1, 1) := by decide +kernel
theorem dX7_spoiltDots_22 : decode cX7_spoiltDots 22 = .ok (.goto 4, 3) := by decide +kernel
theorem dX7_spoiltDots_25 : decode cX7_spoiltDots 25 = .ok (.iconst 0, 1) := by decide +kernel
theorem dX7_spoiltDots_26 : decode cX7_spoiltDots 26 = .ok (.iadd, 1) := by decide +kernel
theorem dX7_spoiltDots_27 : decode cX7_spoiltDots 27 = .ok (.istore_n 1, 1) := by decide +kernel
theorem dX7_spoiltDots_28 : decode cX7_spoiltDots 28 = .ok (.iinc 2 1, 3) := by decide +kernel
theorem dX7_spoiltDots_31 : decode cX7_spoiltDots 31 = .ok (.goto (-27), 3) := by decide +kernel
theorem dX7_spoiltDots_34 : decode cX7_spoiltDots 34 = .ok (.iload_n 1, 1) := by decide +kernel
theorem dX7_spoiltDots_35 : decode cX7_spoiltDots 35 = .ok (.ireturn, 1) := by decide +kernel
set_option maxRecDepth 100000 in
set_option maxHeartbeats 4000000 in
theorem c_X7_spoiltDots {l : Launch} {D : q_D} (τ : q_T) (σ : q_V) (a0 : Nat) (hI : q_I τ σ) (tA0 : τ a0 = some (6, 1)) : q_Cp l D yX7_spoiltDots cX7_spoiltDots 3 (some .int) 1 21 τ σ [.ref a0] (fun r => (q_r r (-2147483648) 2147483647) ∧ (r.toInt = f_X7_spoiltDots (fx_N σ) a0)) := by
  refine q_meti rfl (Nat.le_of_ble_eq_true rfl) (fun X hG hE => ?_)
  show q_O X 0 0 τ σ 0 [(0, .ref a0)] []
  obtain ⟨Fv, hF⟩ : ∃ z, fx_eq z (f_X7_spoiltDots (fx_N σ) a0) := ⟨_, fx_rf⟩
  have hF0 := hF
  unfold f_X7_spoiltDots at hF
  refine q_iconst (pc := 0) hG dX7_spoiltDots_0 ki_0 ?_
  refine q_istore_n (pc := 1) [(1, .int 0), (0, .ref a0)] hG dX7_spoiltDots_1 (by decide) rfl ?_
  refine q_iconst (pc := 2) hG dX7_spoiltDots_2 ki_0 ?_
  refine q_istore_n (pc := 3) [(2, .int 0), (1, .int 0), (0, .ref a0)] hG dX7_spoiltDots_3 (by decide) rfl ?_
  have J4 : ∀ (n4 : Nat) (p4_1 : Int32) (p4_2 : Int32), (q_r p4_2 0 64) → (fx_eq Fv (kL_X7_spoiltDots_4 (fx_N σ) a0 n4 p4_1.toInt p4_2.toInt)) → ((64 - p4_2.toInt).toNat < n4) → q_O X 0 0 τ σ 4 [(0, .ref a0), (1, .int p4_1), (2, .int p4_2)] [] := by
    intro n4
    induction n4 with
    | zero => intro p4_1 p4_2 r4_2 hF hm4; exact absurd hm4 (Nat.not_lt_zero _)
    | succ n4 ih4 =>
      intro p4_1 p4_2 r4_2 hF hm4
      replace hF := (show fx_eq Fv (kB_X7_spoiltDots_4 (kL_X7_spoiltDots_4 (fx_N σ) a0 n4) (fx_N σ) a0 p4_1.toInt p4_2.toInt) from hF)
      unfold kB_X7_spoiltDots_4 at hF
      refine q_iload_n (pc := 4) hG dX7_spoiltDots_4 2 rfl ?_
      refine q_aload_n (pc := 5) hG dX7_spoiltDots_5 0 rfl ?_
      refine q_getI (pc := 6) hG fl_X7_9 dX7_spoiltDots_6 hI tA0 ff_6_0 (fun v6 f6 g6 => ?_)
      replace hF := fx_I hF f6 rfl
      refine q_icmp_ge (pc := 9) hG 34 dX7_spoiltDots_9 rfl ?_ ?_
      · intro c9
        replace hF := fx_lt2 hF rfl rfl c9
        refine q_iload_n (pc := 34) hG dX7_spoiltDots_34 1 rfl ?_
        exact q_irt hG hE dX7_spoiltDots_35 ⟨rfl, (q_r_any p4_1), (fx_end hF hF0)⟩
      intro c9
      replace hF := fx_lt1 hF rfl rfl c9
      refine q_iload_n (pc := 12) hG dX7_spoiltDots_12 1 rfl ?_
      refine q_aload_n (pc := 13) hG dX7_spoiltDots_13 0 rfl ?_
      refine q_iload_n (pc := 14) hG dX7_spoiltDots_14 2 rfl ?_
      have r_1 := q_rlt r4_2 g6 c9 63 (by decide)
      refine q_pV (pc := 15) [.int p4_2] [.int p4_1] hG (c_X7_isSpoilt τ σ a0 p4_2 hI tA0 r_1) my_X7_isSpoilt mv_X7_isSpoilt w503 dX7_spoiltDots_15 tA0 (by decide) rfl rfl (Nat.le_of_ble_eq_true rfl) (by decide) (fun v15 p15 => ?_)
      replace hF := fx_E hF p15.2
      have J26 : ∀ (p26_s0 : Int32), (q_r p26_s0 0 1) → (fx_eq Fv (kJ_X7_spoiltDots_26 p4_1.toInt p4_2.toInt (kL_X7_spoiltDots_4 (fx_N σ) a0 n4) p26_s0.toInt)) → q_O X 0 0 τ σ 26 [(0, .ref a0), (2, .int p4_2)] [.int p26_s0, .int p4_1] := by
        intro p26_s0 r26_s0 hF
        unfold kJ_X7_spoiltDots_26 at hF
        refine q_iadd (pc := 26) hG dX7_spoiltDots_26 (fun v26 e26 => ?_)
        replace hF := fx_B_add hF rfl rfl e26
        refine q_istore_n (pc := 27) [(1, .int v26), (0, .ref a0), (2, .int p4_2)] hG dX7_spoiltDots_27 (by decide) rfl ?_
        obtain ⟨v28, e28⟩ : ∃ z : Int32, z = p4_2 + Int32.ofInt 1 := ⟨_, rfl⟩
        have h28 := q_incN (lo := 1) (hi := 64) r_1 (by decide) (by decide) e28
        replace hF := fx_add hF rfl rfl h28.1
        refine q_iinc (pc := 28) [(2, .int v28), (1, .int v26), (0, .ref a0)] hG dX7_spoiltDots_28 2 rfl e28 (by decide) rfl ?_
        refine q_goto (pc := 31) 4 hG dX7_spoiltDots_31 rfl ?_
        refine q_lv [2, 1, 0] rfl ?_
        exact ih4 v26 v28 (q_r.mono h28.2 (by decide)) hF (q_measU hm4 (by have o0 := c9; have o1 := h28.1; have o2 := r_1; have o3 := h28.2; have o4 := g6; unfold q_r at o2 o3 o4; omega) (h28.2).2)
      refine q_if_eq (pc := 18) hG 25 dX7_spoiltDots_18 rfl ?_ ?_
      · intro c18
        replace hF := fx_eq1 hF rfl rfl c18
        refine q_iconst (pc := 25) hG dX7_spoiltDots_25 ki_0 ?_
        refine q_lv [0, 2] rfl ?_
        exact J26 0 (q_r.mono rl_0 (by decide)) (by rw [tl_0]; exact hF)
      intro c18
      replace hF := fx_eq2 hF rfl rfl c18
      refine q_iconst (pc := 21) hG dX7_spoiltDots_21 ki_1 ?_
      refine q_goto (pc := 22) 26 hG dX7_spoiltDots_22 rfl ?_
      refine q_lv [0, 2] rfl ?_
      exact J26 1 (q_r.mono rl_1 (by decide)) (by rw [tl_1]; exact hF)
  refine q_lv [2, 1, 0] rfl ?_
  exact J4 ((64 - (0 : Int32).toInt).toNat + 1) 0 0 (q_r.mono rl_0 (by decide)) (by rw [tl_0]; exact hF) (Nat.lt_succ_self _)
theorem dX7_offKerb_0 : decode cX7_offKerb 0 = .ok (.iconst 0, 1) := by decide +kernel
theorem dX7_offKerb_1 : decode cX7_offKerb 1 = .ok (.istore_n 1, 1) := by decide +kernel
theorem dX7_offKerb_2 : decode cX7_offKerb 2 = .ok (.iconst 0, 1) := by decide +kernel
theorem dX7_offKerb_3 : decode cX7_offKerb 3 = .ok (.istore_n 2, 1) := by decide +kernel
theorem dX7_offKerb_4 : decode cX7_offKerb 4 = .ok (.iload_n 2, 1) := by decide +kernel
theorem dX7_offKerb_5 : decode cX7_offKerb 5 = .ok (.aload_n 0, 1) := by decide +kernel
theorem dX7_offKerb_6 : decode cX7_offKerb 6 = .ok (.getfield 9, 3) := by decide +kernel
theorem dX7_offKerb_9 : decode cX7_offKerb 9 = .ok (.if_icmp .ge 40, 3) := by decide +kernel
theorem dX7_offKerb_12 : decode cX7_offKerb 12 = .ok (.iload_n 1, 1) := by decide +kernel
theorem dX7_offKerb_13 : decode cX7_offKerb 13 = .ok (.aload_n 0, 1) := by decide +kernel
theorem dX7_offKerb_14 : decode cX7_offKerb 14 = .ok (.iload_n 2, 1) := by decide +kernel
theorem dX7_offKerb_15 : decode cX7_offKerb 15 = .ok (.invokevirtual 85, 3) := by decide +kernel
theorem dX7_offKerb_18 : decode cX7_offKerb 18 = .ok (.ifCond .eq 22, 3) := by decide +kernel
theorem dX7_offKerb_21 : decode cX7_offKerb 21 = .ok (.aload_n 0, 1) := by decide +kernel
theorem dX7_offKerb_22 : decode cX7_offKerb 22 = .ok (.getfield 28, 3) := by decide +kernel
theorem dX7_offKerb_25 : decode cX7_offKerb 25 = .ok (.iload_n 2, 1) := by decide +kernel
theorem dX7_offKerb_26 : decode cX7_offKerb 26 = .ok (.iaload, 1) := by decide +kernel
theorem dX7_offKerb_27 : decode cX7_offKerb 27 = .ok (.aload_n 0, 1) := by decide +kernel
theorem dX7_offKerb_28 : decode cX7_offKerb 28 = .ok (.getfield 15, 3) := by decide +kernel
theorem dX7_offKerb_31 : decode cX7_offKerb 31 = .ok (.iload_n 2, 1) := by decide +kernel
theorem dX7_offKerb_32 : decode cX7_offKerb 32 = .ok (.iaload, 1) := by decide +kernel
theorem dX7_offKerb_33 : decode cX7_offKerb 33 = .ok (.isub, 1) := by decide +kernel
theorem dX7_offKerb_34 : decode cX7_offKerb 34 = .ok (.invokestatic 109, 3) := by decide +kernel
theorem dX7_offKerb_37 : decode cX7_offKerb 37 = .ok (.goto 4, 3) := by decide +kernel
theorem dX7_offKerb_40 : decode cX7_offKerb 40 = .ok (.iconst 0, 1) := by decide +kernel
theorem dX7_offKerb_41 : decode cX7_offKerb 41 = .ok (.iadd, 1) := by decide +kernel
theorem dX7_offKerb_42 : decode cX7_offKerb 42 = .ok (.istore_n 1, 1) := by decide +kernel
theorem dX7_offKerb_43 : decode cX7_offKerb 43 = .ok (.iinc 2 1, 3) := by decide +kernel
theorem dX7_offKerb_46 : decode cX7_offKerb 46 = .ok (.goto (-42), 3) := by decide +kernel
theorem dX7_offKerb_49 : decode cX7_offKerb 49 = .ok (.iload_n 1, 1) := by decide +kernel
theorem dX7_offKerb_50 : decode cX7_offKerb 50 = .ok (.ireturn, 1) := by decide +kernel
set_option maxRecDepth 100000 in
set_option maxHeartbeats 4000000 in
theorem c_X7_offKerb {l : Launch} {D : q_D} (τ : q_T) (σ : q_V) (a0 : Nat) (hI : q_I τ σ) (tA0 : τ a0 = some (6, 1)) : q_Cp l D yX7_offKerb cX7_offKerb 3 (some .int) 1 21 τ σ [.ref a0] (fun r => (q_r r (-2147483648) 2147483647) ∧ (r.toInt = f_X7_offKerb (fx_N σ) a0)) := by
  refine q_meti rfl (Nat.le_of_ble_eq_true rfl) (fun X hG hE => ?_)
  show q_O X 0 0 τ σ 0 [(0, .ref a0)] []
  obtain ⟨Fv, hF⟩ : ∃ z, fx_eq z (f_X7_offKerb (fx_N σ) a0) := ⟨_, fx_rf⟩
  have hF0 := hF
  unfold f_X7_offKerb at hF
  refine q_iconst (pc := 0) hG dX7_offKerb_0 ki_0 ?_
  refine q_istore_n (pc := 1) [(1, .int 0), (0, .ref a0)] hG dX7_offKerb_1 (by decide) rfl ?_
  refine q_iconst (pc := 2) hG dX7_offKerb_2 ki_0 ?_
  refine q_istore_n (pc := 3) [(2, .int 0), (1, .int 0), (0, .ref a0)] hG dX7_offKerb_3 (by decide) rfl ?_
  have J4 : ∀ (n4 : Nat) (p4_1 : Int32) (p4_2 : Int32), (q_r p4_2 0 64) → (fx_eq Fv (kL_X7_offKerb_4 (fx_N σ) a0 n4 p4_1.toInt p4_2.toInt)) → ((64 - p4_2.toInt).toNat < n4) → q_O X 0 0 τ σ 4 [(0, .ref a0), (1, .int p4_1), (2, .int p4_2)] [] := by
    intro n4
    induction n4 with
    | zero => intro p4_1 p4_2 r4_2 hF hm4; exact absurd hm4 (Nat.not_lt_zero _)
    | succ n4 ih4 =>
      intro p4_1 p4_2 r4_2 hF hm4
      replace hF := (show fx_eq Fv (kB_X7_offKerb_4 (kL_X7_offKerb_4 (fx_N σ) a0 n4) (fx_N σ) a0 p4_1.toInt p4_2.toInt) from hF)
      unfold kB_X7_offKerb_4 at hF
      refine q_iload_n (pc := 4) hG dX7_offKerb_4 2 rfl ?_
      refine q_aload_n (pc := 5) hG dX7_offKerb_5 0 rfl ?_
      refine q_getI (pc := 6) hG fl_X7_9 dX7_offKerb_6 hI tA0 ff_6_0 (fun v6 f6 g6 => ?_)
      replace hF := fx_I hF f6 rfl
      refine q_icmp_ge (pc := 9) hG 49 dX7_offKerb_9 rfl ?_ ?_
      · intro c9
        replace hF := fx_lt2 hF rfl rfl c9
        refine q_iload_n (pc := 49) hG dX7_offKerb_49 1 rfl ?_
        exact q_irt hG hE dX7_offKerb_50 ⟨rfl, (q_r_any p4_1), (fx_end hF hF0)⟩
      intro c9
      replace hF := fx_lt1 hF rfl rfl c9
      refine q_iload_n (pc := 12) hG dX7_offKerb_12 1 rfl ?_
      refine q_aload_n (pc := 13) hG dX7_offKerb_13 0 rfl ?_
      refine q_iload_n (pc := 14) hG dX7_offKerb_14 2 rfl ?_
      have r_1 := q_rlt r4_2 g6 c9 63 (by decide)
      refine q_pV (pc := 15) [.int p4_2] [.int p4_1] hG (c_X7_isPainted τ σ a0 p4_2 hI tA0 r_1) my_X7_isPainted mv_X7_isPainted w410 dX7_offKerb_15 tA0 (by decide) rfl rfl (Nat.le_of_ble_eq_true rfl) (by decide) (fun v15 p15 => ?_)
      replace hF := fx_E hF p15.2
      have J41 : ∀ (p41_s0 : Int32), (fx_eq Fv (kJ_X7_offKerb_41 p4_1.toInt p4_2.toInt (kL_X7_offKerb_4 (fx_N σ) a0 n4) p41_s0.toInt)) → q_O X 0 0 τ σ 41 [(0, .ref a0), (2, .int p4_2)] [.int p41_s0, .int p4_1] := by
        intro p41_s0 hF
        unfold kJ_X7_offKerb_41 at hF
        refine q_iadd (pc := 41) hG dX7_offKerb_41 (fun v41 e41 => ?_)
        replace hF := fx_B_add hF rfl rfl e41
        refine q_istore_n (pc := 42) [(1, .int v41), (0, .ref a0), (2, .int p4_2)] hG dX7_offKerb_42 (by decide) rfl ?_
        obtain ⟨v43, e43⟩ : ∃ z : Int32, z = p4_2 + Int32.ofInt 1 := ⟨_, rfl⟩
        have h43 := q_incN (lo := 1) (hi := 64) r_1 (by decide) (by decide) e43
        replace hF := fx_add hF rfl rfl h43.1
        refine q_iinc (pc := 43) [(2, .int v43), (1, .int v41), (0, .ref a0)] hG dX7_offKerb_43 2 rfl e43 (by decide) rfl ?_
        refine q_goto (pc := 46) 4 hG dX7_offKerb_46 rfl ?_
        refine q_lv [2, 1, 0] rfl ?_
        exact ih4 v41 v43 (q_r.mono h43.2 (by decide)) hF (q_measU hm4 (by have o0 := c9; have o1 := h43.1; have o2 := r_1; have o3 := h43.2; have o4 := g6; unfold q_r at o2 o3 o4; omega) (h43.2).2)
      refine q_if_eq (pc := 18) hG 40 dX7_offKerb_18 rfl ?_ ?_
      · intro c18
        replace hF := fx_eq1 hF rfl rfl c18
        refine q_iconst (pc := 40) hG dX7_offKerb_40 ki_0 ?_
        refine q_lv [0, 2] rfl ?_
        exact J41 0 (by rw [tl_0]; exact hF)
      intro c18
      replace hF := fx_eq2 hF rfl rfl c18
      refine q_aload_n (pc := 21) hG dX7_offKerb_21 0 rfl ?_
      refine q_getR (pc := 22) (k2 := 120) (n2 := 64) hG fl_X7_28 dX7_offKerb_22 hI tA0 ff_6_5 (fun b22 f22 T22 => ?_)
      replace hF := fx_R hF f22 rfl
      refine q_iload_n (pc := 25) hG dX7_offKerb_25 2 rfl ?_
      refine q_iald (pc := 26) hG dX7_offKerb_26 hI ai_120 T22 (q_ix r_1 (by decide)) (fun v26 f26 g26 => ?_)
      replace hF := fx_I hF f26 rfl
      refine q_aload_n (pc := 27) hG dX7_offKerb_27 0 rfl ?_
      refine q_getR (pc := 28) (k2 := 118) (n2 := 64) hG fl_X7_15 dX7_offKerb_28 hI tA0 ff_6_1 (fun b28 f28 T28 => ?_)
      replace hF := fx_R hF f28 rfl
      refine q_iload_n (pc := 31) hG dX7_offKerb_31 2 rfl ?_
      refine q_iald (pc := 32) hG dX7_offKerb_32 hI ai_118 T28 (q_ix r_1 (by decide)) (fun v32 f32 g32 => ?_)
      replace hF := fx_I hF f32 rfl
      refine q_isub (pc := 33) hG dX7_offKerb_33 (fun v33 e33 => ?_)
      replace hF := fx_B_sub hF rfl rfl e33
      refine q_pS (pc := 34) [.int v33] [.int p4_1] hG (c_J9_abs_0f7a4 τ σ v33 hI) my_J9_abs_0f7a4 w271 w512 dX7_offKerb_34 rfl rfl (Nat.le_of_ble_eq_true rfl) (by decide) (fun v34 p34 => ?_)
      replace hF := fx_E hF p34.2.1
      refine q_goto (pc := 37) 41 hG dX7_offKerb_37 rfl ?_
      refine q_lv [0, 2] rfl ?_
      exact J41 v34 hF
  refine q_lv [2, 1, 0] rfl ?_
  exact J4 ((64 - (0 : Int32).toInt).toNat + 1) 0 0 (q_r.mono rl_0 (by decide)) (by rw [tl_0]; exact hF) (Nat.lt_succ_self _)
