/-! laid by wip/p2/build.py -/
theorem dX5_beginDots_0 : decode cX5_beginDots 0 = .ok (.iconst 0, 1) := by decide +kernel
theorem dX5_beginDots_1 : decode cX5_beginDots 1 = .ok (.istore_n 2, 1) := by decide +kernel
theorem dX5_beginDots_2 : decode cX5_beginDots 2 = .ok (.iload_n 2, 1) := by decide +kernel
theorem dX5_beginDots_3 : decode cX5_beginDots 3 = .ok (.iconst 2, 1) := by decide +kernel
theorem dX5_beginDots_4 : decode cX5_beginDots 4 = .ok (.if_icmp .ge 92, 3) := by decide +kernel
theorem dX5_beginDots_7 : decode cX5_beginDots 7 = .ok (.aload_n 0, 1) := by decide +kernel
theorem dX5_beginDots_8 : decode cX5_beginDots 8 = .ok (.getfield 32, 3) := by decide +kernel
theorem dX5_beginDots_11 : decode cX5_beginDots 11 = .ok (.iload_n 2, 1) := by decide +kernel
theorem dX5_beginDots_12 : decode cX5_beginDots 12 = .ok (.baload, 1) := by decide +kernel
theorem dX5_beginDots_13 : decode cX5_beginDots 13 = .ok (.ifCond .eq 77, 3) := by decide +kernel
theorem dX5_beginDots_16 : decode cX5_beginDots 16 = .ok (.aload_n 0, 1) := by decide +kernel
theorem dX5_beginDots_17 : decode cX5_beginDots 17 = .ok (.getfield 36, 3) := by decide +kernel
theorem dX5_beginDots_20 : decode cX5_beginDots 20 = .ok (.iload_n 2, 1) := by decide +kernel
theorem dX5_beginDots_21 : decode cX5_beginDots 21 = .ok (.iaload, 1) := by decide +kernel
theorem dX5_beginDots_22 : decode cX5_beginDots 22 = .ok (.bipush (-2), 2) := by decide +kernel
theorem dX5_beginDots_24 : decode cX5_beginDots 24 = .ok (.if_icmp .eq 6, 3) := by decide +kernel
theorem dX5_beginDots_27 : decode cX5_beginDots 27 = .ok (.goto 63, 3) := by decide +kernel
theorem dX5_beginDots_30 : decode cX5_beginDots 30 = .ok (.aload_n 0, 1) := by decide +kernel
theorem dX5_beginDots_31 : decode cX5_beginDots 31 = .ok (.iload_n 2, 1) := by decide +kernel
theorem dX5_beginDots_32 : decode cX5_beginDots 32 = .ok (.invokevirtual 40, 3) := by decide +kernel
theorem dX5_beginDots_35 : decode cX5_beginDots 35 = .ok (.istore_n 3, 1) := by decide +kernel
theorem dX5_beginDots_36 : decode cX5_beginDots 36 = .ok (.iload_n 3, 1) := by decide +kernel
theorem dX5_beginDots_37 : decode cX5_beginDots 37 = .ok (.bipush (-2), 2) := by decide +kernel
theorem dX5_beginDots_39 : decode cX5_beginDots 39 = .ok (.if_icmp .ne 13, 3) := by decide +kernel
theorem dX5_beginDots_42 : decode cX5_beginDots 42 = .ok (.aload_n 0, 1) := by decide +kernel
theorem dX5_beginDots_43 : decode cX5_beginDots 43 = .ok (.getfield 32, 3) := by decide +kernel
theorem dX5_beginDots_46 : decode cX5_beginDots 46 = .ok (.iload_n 2, 1) := by decide +kernel
theorem dX5_beginDots_47 : decode cX5_beginDots 47 = .ok (.iconst 0, 1) := by decide +kernel
theorem dX5_beginDots_48 : decode cX5_beginDots 48 = .ok (.bastore, 1) := by decide +kernel
theorem dX5_beginDots_49 : decode cX5_beginDots 49 = .ok (.goto 41, 3) := by decide +kernel
theorem dX5_beginDots_52 : decode cX5_beginDots 52 = .ok (.aload_n 0, 1) := by decide +kernel
theorem dX5_beginDots_53 : decode cX5_beginDots 53 = .ok (.invokevirtual 44, 3) := by decide +kernel
theorem dX5_beginDots_56 : decode cX5_beginDots 56 = .ok (.aload_n 0, 1) := by decide +kernel
theorem dX5_beginDots_57 : decode cX5_beginDots 57 = .ok (.getfield 48, 3) := by decide +kernel
theorem dX5_beginDots_60 : decode cX5_beginDots 60 = .ok (.if_icmp .ge 30, 3) := by decide +kernel
theorem dX5_beginDots_63 : decode cX5_beginDots 63 = .ok (.aload_n 0, 1) := by decide +kernel
theorem dX5_beginDots_64 : decode cX5_beginDots 64 = .ok (.getfield 36, 3) := by decide +kernel
theorem dX5_beginDots_67 : decode cX5_beginDots 67 = .ok (.iload_n 2, 1) := by decide +kernel
theorem dX5_beginDots_68 : decode cX5_beginDots 68 = .ok (.iload_n 3, 1) := by decide +kernel
theorem dX5_beginDots_69 : decode cX5_beginDots 69 = .ok (.iastore, 1) := by decide +kernel
theorem dX5_beginDots_70 : decode cX5_beginDots 70 = .ok (.aload_n 0, 1) := by decide +kernel
theorem dX5_beginDots_71 : decode cX5_beginDots 71 = .ok (.getfield 51, 3) := by decide +kernel
theorem dX5_beginDots_74 : decode cX5_beginDots 74 = .ok (.iload_n 2, 1) := by decide +kernel
theorem dX5_beginDots_75 : decode cX5_beginDots 75 = .ok (.aload_n 1, 1) := by decide +kernel
theorem dX5_beginDots_76 : decode cX5_beginDots 76 = .ok (.bipush 112, 2) := by decide +kernel
theorem dX5_beginDots_78 : decode cX5_beginDots 78 = .ok (.aload_n 0, 1) := by decide +kernel
theorem dX5_beginDots_79 : decode cX5_beginDots 79 = .ok (.iload_n 3, 1) := by decide +kernel
theorem dX5_beginDots_80 : decode cX5_beginDots 80 = .ok (.aload_n 0, 1) := by decide +kernel
theorem dX5_beginDots_81 : decode cX5_beginDots 81 = .ok (.getfield 9, 3) := by decide +kernel
theorem dX5_beginDots_84 : decode cX5_beginDots 84 = .ok (.iload_n 2, 1) := by decide +kernel
theorem dX5_beginDots_85 : decode cX5_beginDots 85 = .ok (.iconst 0, 1) := by decide +kernel
theorem dX5_beginDots_86 : decode cX5_beginDots 86 = .ok (.invokevirtual 54, 3) := by decide +kernel
theorem dX5_beginDots_89 : decode cX5_beginDots 89 = .ok (.iastore, 1) := by decide +kernel
theorem dX5_beginDots_90 : decode cX5_beginDots 90 = .ok (.iinc 2 1, 3) := by decide +kernel
theorem dX5_beginDots_93 : decode cX5_beginDots 93 = .ok (.goto (-91), 3) := by decide +kernel
theorem dX5_beginDots_96 : decode cX5_beginDots 96 = .ok (.return_, 1) := by decide +kernel
def md_X5_beginDots : List (Nat × Nat) := [(3, 9), (3, 10), (3, 11), (3, 12), (3, 13), (3, 14), (3, 15), (117, 0), (124, 0), (125, 0), (210, 0)]
set_option maxRecDepth 100000 in
set_option maxHeartbeats 4000000 in
theorem c_X5_beginDots {l : Launch} {D : q_D} (τ : q_T) (σ : q_V) (a0 : Nat) (a1 : Nat) (hI : q_I τ σ) (tA0 : τ a0 = some (6, 1)) (tA1 : τ a1 = some (3, 1)) : q_Cv l D yX5_beginDots cX5_beginDots 4 none 5 119 τ σ [.ref a0, .ref a1] (fun σ1 => q_S md_X5_beginDots τ σ σ1 ∧ (fx_N σ1 = f_X5_beginDots (fx_N σ) a0 a1)) := by
  refine q_metv rfl (Nat.le_of_ble_eq_true rfl) (fun X hG hE => ?_)
  show q_O X 0 0 τ σ 0 [(0, .ref a0), (1, .ref a1)] []
  have hS0 : q_S md_X5_beginDots τ σ σ := q_S.rf hI
  obtain ⟨Fv, hF⟩ : ∃ z, fx_eq z (f_X5_beginDots (fx_N σ) a0 a1) := ⟨_, fx_rf⟩
  have hF0 := hF
  unfold f_X5_beginDots at hF
  refine q_iconst (pc := 0) hG dX5_beginDots_0 ki_0 ?_
  refine q_istore_n (pc := 1) [(2, .int 0), (0, .ref a0), (1, .ref a1)] hG dX5_beginDots_1 (by decide) rfl ?_
  have J2 : ∀ (n2 : Nat) (p2_2 : Int32) (σ2 : q_V), (q_r p2_2 0 2) → (q_S md_X5_beginDots τ σ σ2) → (fx_eq Fv (kL_X5_beginDots_2 a0 a1 n2 p2_2.toInt (fx_N σ2))) → ((2 - p2_2.toInt).toNat < n2) → q_O X 0 0 τ σ2 2 [(0, .ref a0), (1, .ref a1), (2, .int p2_2)] [] := by
    intro n2
    induction n2 with
    | zero => intro p2_2 σ2 r2_2 hS2 hF hm2; exact absurd hm2 (Nat.not_lt_zero _)
    | succ n2 ih2 =>
      intro p2_2 σ2 r2_2 hS2 hF hm2
      replace hF := (show fx_eq Fv (kB_X5_beginDots_2 (kL_X5_beginDots_2 a0 a1 n2) a0 a1 p2_2.toInt (fx_N σ2)) from hF)
      unfold kB_X5_beginDots_2 at hF
      refine q_iload_n (pc := 2) hG dX5_beginDots_2 2 rfl ?_
      refine q_iconst (pc := 3) hG dX5_beginDots_3 ki_2 ?_
      refine q_icmp_ge (pc := 4) hG 96 dX5_beginDots_4 rfl ?_ ?_
      · intro c4
        replace hF := fx_lt2 hF rfl tl_2 c4
        exact q_vrt hG hE dX5_beginDots_96 ⟨hS2, (fx_end hF hF0)⟩
      intro c4
      replace hF := fx_lt1 hF rfl tl_2 c4
      refine q_aload_n (pc := 7) hG dX5_beginDots_7 0 rfl ?_
      refine q_getR (pc := 8) (k2 := 210) (n2 := 2) hG fl_X5_32 dX5_beginDots_8 hS2.1 tA0 ff_6_9 (fun b8 f8 T8 => ?_)
      replace hF := fx_R hF f8 rfl
      have f_1 := (hS2.2 _ _ _ _ tA0 rfl).symm.trans f8
      refine q_iload_n (pc := 11) hG dX5_beginDots_11 2 rfl ?_
      have r_2 := q_rlt r2_2 rl_2 c4 1 (by decide)
      refine q_zald (pc := 12) hG dX5_beginDots_12 hS2.1 ai_210 T8 (q_ix r_2 (by decide)) (fun v12 f12 g12 => ?_)
      replace hF := fx_I hF f12 rfl
      have J90 : ∀ (σ90 : q_V), (q_S md_X5_beginDots τ σ σ90) → (fx_eq Fv (kJ_X5_beginDots_90 p2_2.toInt (kL_X5_beginDots_2 a0 a1 n2) (fx_N σ90))) → q_O X 0 0 τ σ90 90 [(0, .ref a0), (1, .ref a1), (2, .int p2_2)] [] := by
        intro σ90 hS90 hF
        unfold kJ_X5_beginDots_90 at hF
        obtain ⟨v90, e90⟩ : ∃ z : Int32, z = p2_2 + Int32.ofInt 1 := ⟨_, rfl⟩
        have h90 := q_incN (lo := 1) (hi := 2) r_2 (by decide) (by decide) e90
        replace hF := fx_add hF rfl rfl h90.1
        refine q_iinc (pc := 90) [(2, .int v90), (0, .ref a0), (1, .ref a1)] hG dX5_beginDots_90 2 rfl e90 (by decide) rfl ?_
        refine q_goto (pc := 93) 2 hG dX5_beginDots_93 rfl ?_
        refine q_lv [1, 2, 0] rfl ?_
        exact ih2 v90 σ90 (q_r.mono h90.2 (by decide)) hS90 hF (q_measU hm2 (by have o0 := c4; have o1 := h90.1; have o2 := r_2; have o3 := h90.2; have l4 := tl_2; unfold q_r at o2 o3; omega) (h90.2).2)
      refine q_if_eq (pc := 13) hG 90 dX5_beginDots_13 rfl ?_ ?_
      · intro c13
        replace hF := fx_eq1 hF rfl rfl c13
        refine q_lv [0, 1, 2] rfl ?_
        exact J90 σ2 hS2 hF
      intro c13
      replace hF := fx_eq2 hF rfl rfl c13
      refine q_aload_n (pc := 16) hG dX5_beginDots_16 0 rfl ?_
      refine q_getR (pc := 17) (k2 := 124) (n2 := 2) hG fl_X5_36 dX5_beginDots_17 hS2.1 tA0 ff_6_10 (fun b17 f17 T17 => ?_)
      replace hF := fx_R hF f17 rfl
      have f_3 := (hS2.2 _ _ _ _ tA0 rfl).symm.trans f17
      refine q_iload_n (pc := 20) hG dX5_beginDots_20 2 rfl ?_
      refine q_iald (pc := 21) hG dX5_beginDots_21 hS2.1 ai_124 T17 (q_ix r_2 (by decide)) (fun v21 f21 g21 => ?_)
      replace hF := fx_I hF f21 rfl
      refine q_bipush (pc := 22) hG dX5_beginDots_22 kb_m2 ?_
      refine q_icmp_eq (pc := 24) hG 30 dX5_beginDots_24 rfl ?_ ?_
      · intro c24
        replace hF := fx_eq1 hF rfl tl_m2 c24
        refine q_aload_n (pc := 30) hG dX5_beginDots_30 0 rfl ?_
        refine q_iload_n (pc := 31) hG dX5_beginDots_31 2 rfl ?_
        refine q_pV (pc := 32) [.int p2_2] [] hG (c_X7_nextFor τ σ2 a0 p2_2 hS2.1 tA0) my_X7_nextFor mv_X7_nextFor w406 dX5_beginDots_32 tA0 (by decide) rfl rfl (Nat.le_of_ble_eq_true rfl) (by decide) (fun v32 p32 => ?_)
        replace hF := fx_E hF p32.2
        refine q_istore_n (pc := 35) [(3, .int v32), (0, .ref a0), (1, .ref a1), (2, .int p2_2)] hG dX5_beginDots_35 (by decide) rfl ?_
        refine q_iload_n (pc := 36) hG dX5_beginDots_36 0 rfl ?_
        refine q_bipush (pc := 37) hG dX5_beginDots_37 kb_m2 ?_
        refine q_icmp_ne (pc := 39) hG 52 dX5_beginDots_39 rfl ?_ ?_
        · intro c39
          replace hF := fx_eq2 hF rfl tl_m2 c39
          refine q_aload_n (pc := 52) hG dX5_beginDots_52 1 rfl ?_
          refine q_pV (pc := 53) [] [] hG (c_X7_conesInUse τ σ2 a0 hS2.1 tA0) my_X7_conesInUse mv_X7_conesInUse w419 dX5_beginDots_53 tA0 (by decide) rfl rfl (Nat.le_of_ble_eq_true rfl) (by decide) (fun v53 p53 => ?_)
          replace hF := fx_E hF p53.2
          refine q_aload_n (pc := 56) hG dX5_beginDots_56 1 rfl ?_
          refine q_getI (pc := 57) hG fl_X5_48 dX5_beginDots_57 hS2.1 tA0 ff_6_15 (fun v57 f57 g57 => ?_)
          replace hF := fx_I hF f57 rfl
          have f_4 := (hS2.2 _ _ _ _ tA0 rfl).symm.trans f57
          refine q_icmp_ge (pc := 60) hG 90 dX5_beginDots_60 rfl ?_ ?_
          · intro c60
            replace hF := fx_lt2 hF rfl rfl c60
            refine q_lv [1, 2, 3] rfl ?_
            exact J90 σ2 hS2 hF
          intro c60
          replace hF := fx_lt1 hF rfl rfl c60
          refine q_aload_n (pc := 63) hG dX5_beginDots_63 1 rfl ?_
          refine q_getV (pc := 64) (v := .ref b17) hG fl_X5_36 dX5_beginDots_64 tA0 (hS2.same tA0 rfl f_3) ?_
          refine q_iload_n (pc := 67) hG dX5_beginDots_67 3 rfl ?_
          refine q_iload_n (pc := 68) hG dX5_beginDots_68 0 rfl ?_
          have r_5 := q_neL (c := (-1)) p32.1 (q_nel c39 tl_m2) (by decide)
          refine q_iast (pc := 69) hG dX5_beginDots_69 hS2 ai_124 T17 (q_ix r_2 (by decide)) r_5 (by decide) rfl (fun s69 u69 w69 => ?_)
          replace hF := fx_P hF u69 rfl rfl
          have m69 : s69 b17 p2_2.toInt.toNat = .int v32 := by rw [u69]; exact q_up_same
          refine q_aload_n (pc := 70) hG dX5_beginDots_70 1 rfl ?_
          refine q_getR (pc := 71) (k2 := 125) (n2 := 2) hG fl_X5_51 dX5_beginDots_71 w69.1 tA0 ff_6_11 (fun b71 f71 T71 => ?_)
          replace hF := fx_R hF f71 rfl
          have f_6 := (w69.2 _ _ _ _ tA0 rfl).symm.trans f71
          refine q_iload_n (pc := 74) hG dX5_beginDots_74 3 rfl ?_
          refine q_aload_n (pc := 75) hG dX5_beginDots_75 2 rfl ?_
          refine q_bipush (pc := 76) hG dX5_beginDots_76 kb_112 ?_
          refine q_aload_n (pc := 78) hG dX5_beginDots_78 1 rfl ?_
          refine q_iload_n (pc := 79) hG dX5_beginDots_79 0 rfl ?_
          refine q_aload_n (pc := 80) hG dX5_beginDots_80 1 rfl ?_
          refine q_getI (pc := 81) hG fl_X5_9 dX5_beginDots_81 w69.1 tA0 ff_6_17 (fun v81 f81 g81 => ?_)
          replace hF := fx_I hF f81 rfl
          have f_7 := (w69.2 _ _ _ _ tA0 rfl).symm.trans f81
          refine q_iload_n (pc := 84) hG dX5_beginDots_84 3 rfl ?_
          refine q_iconst (pc := 85) hG dX5_beginDots_85 ki_0 ?_
          refine q_cVi (pc := 86) [.int 112, .ref a0, .int v32, .int v81, .int p2_2, .int 0] [.int p2_2, .ref b71] hG (c_X3_ask τ s69 a1 112 a0 v32 v81 p2_2 0 w69.1 tA1 tA0) my_X3_ask mv_X3_ask w431 dX5_beginDots_86 tA1 (by decide) rfl rfl (Nat.le_of_ble_eq_true rfl) (by decide) (fun v86 s86 p86 => ?_)
          have w86 := w69.trans p86.1 rfl
          have fq86 := p86.2.2
          rewrite [tl_0, tl_112] at fq86
          replace hF := fx_C hF fq86
          refine q_iast (pc := 89) hG dX5_beginDots_89 w86 ai_125 T71 (q_ix r_2 (by decide)) p86.2.1 (by decide) rfl (fun s89 u89 w89 => ?_)
          replace hF := fx_P hF u89 rfl rfl
          have m89 : s89 b71 p2_2.toInt.toNat = .int v86 := by rw [u89]; exact q_up_same
          refine q_lv [1, 2, 3] rfl ?_
          exact J90 s89 w89 hF
        intro c39
        replace hF := fx_eq1 hF rfl tl_m2 c39
        refine q_aload_n (pc := 42) hG dX5_beginDots_42 1 rfl ?_
        refine q_getV (pc := 43) (v := .ref b8) hG fl_X5_32 dX5_beginDots_43 tA0 (hS2.same tA0 rfl f_1) ?_
        refine q_iload_n (pc := 46) hG dX5_beginDots_46 3 rfl ?_
        refine q_iconst (pc := 47) hG dX5_beginDots_47 ki_0 ?_
        refine q_zast (pc := 48) hG dX5_beginDots_48 hS2 ai_210 T8 (q_ix r_2 (by decide)) (q_r.mono rl_0 (by decide)) rfl (fun s48 u48 w48 => ?_)
        replace hF := fx_P hF u48 rfl tl_0
        have m48 : s48 b8 p2_2.toInt.toNat = .int 0 := by rw [u48]; exact q_up_same
        refine q_goto (pc := 49) 90 hG dX5_beginDots_49 rfl ?_
        refine q_lv [1, 2, 3] rfl ?_
        exact J90 s48 w48 hF
      intro c24
      replace hF := fx_eq2 hF rfl tl_m2 c24
      refine q_goto (pc := 27) 90 hG dX5_beginDots_27 rfl ?_
      refine q_lv [0, 1, 2] rfl ?_
      exact J90 σ2 hS2 hF
  refine q_lv [1, 2, 0] rfl ?_
  exact J2 ((2 - (0 : Int32).toInt).toNat + 1) 0 σ (q_r.mono rl_0 (by decide)) hS0 (by rw [tl_0]; exact hF) (Nat.lt_succ_self _)
theorem dX5_paintDots_0 : decode cX5_paintDots 0 = .ok (.iconst 0, 1) := by decide +kernel
theorem dX5_paintDots_1 : decode cX5_paintDots 1 = .ok (.istore_n 2, 1) := by decide +kernel
theorem dX5_paintDots_2 : decode cX5_paintDots 2 = .ok (.iconst 0, 1) := by decide +kernel
theorem dX5_paintDots_3 : decode cX5_paintDots 3 = .ok (.istore_n 3, 1) := by decide +kernel
theorem dX5_paintDots_4 : decode cX5_paintDots 4 = .ok (.iload_n 3, 1) := by decide +kernel
theorem dX5_paintDots_5 : decode cX5_paintDots 5 = .ok (.iconst 2, 1) := by decide +kernel
theorem dX5_paintDots_6 : decode cX5_paintDots 6 = .ok (.if_icmp .ge 114, 3) := by decide +kernel
theorem dX5_paintDots_9 : decode cX5_paintDots 9 = .ok (.aload_n 0, 1) := by decide +kernel
theorem dX5_paintDots_10 : decode cX5_paintDots 10 = .ok (.getfield 36, 3) := by decide +kernel
theorem dX5_paintDots_13 : decode cX5_paintDots 13 = .ok (.iload_n 3, 1) := by decide +kernel
theorem dX5_paintDots_14 : decode cX5_paintDots 14 = .ok (.iaload, 1) := by decide +kernel
theorem dX5_paintDots_15 : decode cX5_paintDots 15 = .ok (.istore 4, 2) := by decide +kernel
theorem dX5_paintDots_17 : decode cX5_paintDots 17 = .ok (.aload_n 0, 1) := by decide +kernel
theorem dX5_paintDots_18 : decode cX5_paintDots 18 = .ok (.iload 4, 2) := by decide +kernel
theorem dX5_paintDots_20 : decode cX5_paintDots 20 = .ok (.invokevirtual 60, 3) := by decide +kernel
theorem dX5_paintDots_23 : decode cX5_paintDots 23 = .ok (.ifCond .ne 6, 3) := by decide +kernel
theorem dX5_paintDots_26 : decode cX5_paintDots 26 = .ok (.goto 88, 3) := by decide +kernel
theorem dX5_paintDots_29 : decode cX5_paintDots 29 = .ok (.aload_n 0, 1) := by decide +kernel
theorem dX5_paintDots_30 : decode cX5_paintDots 30 = .ok (.getfield 51, 3) := by decide +kernel
theorem dX5_paintDots_33 : decode cX5_paintDots 33 = .ok (.iload_n 3, 1) := by decide +kernel
theorem dX5_paintDots_34 : decode cX5_paintDots 34 = .ok (.dup2, 1) := by decide +kernel
theorem dX5_paintDots_35 : decode cX5_paintDots 35 = .ok (.iaload, 1) := by decide +kernel
theorem dX5_paintDots_36 : decode cX5_paintDots 36 = .ok (.iconst 1, 1) := by decide +kernel
theorem dX5_paintDots_37 : decode cX5_paintDots 37 = .ok (.isub, 1) := by decide +kernel
theorem dX5_paintDots_38 : decode cX5_paintDots 38 = .ok (.iastore, 1) := by decide +kernel
theorem dX5_paintDots_39 : decode cX5_paintDots 39 = .ok (.aload_n 0, 1) := by decide +kernel
theorem dX5_paintDots_40 : decode cX5_paintDots 40 = .ok (.getfield 51, 3) := by decide +kernel
theorem dX5_paintDots_43 : decode cX5_paintDots 43 = .ok (.iload_n 3, 1) := by decide +kernel
theorem dX5_paintDots_44 : decode cX5_paintDots 44 = .ok (.iaload, 1) := by decide +kernel
theorem dX5_paintDots_45 : decode cX5_paintDots 45 = .ok (.ifCond .le 6, 3) := by decide +kernel
theorem dX5_paintDots_48 : decode cX5_paintDots 48 = .ok (.goto 66, 3) := by decide +kernel
theorem dX5_paintDots_51 : decode cX5_paintDots 51 = .ok (.aload_n 0, 1) := by decide +kernel
theorem dX5_paintDots_52 : decode cX5_paintDots 52 = .ok (.getfield 36, 3) := by decide +kernel
theorem dX5_paintDots_55 : decode cX5_paintDots 55 = .ok (.iload_n 3, 1) := by decide +kernel
theorem dX5_paintDots_56 : decode cX5_paintDots 56 = .ok (.bipush (-2), 2) := by decide +kernel
theorem dX5_paintDots_58 : decode cX5_paintDots 58 = .ok (.iastore, 1) := by decide +kernel
theorem dX5_paintDots_59 : decode cX5_paintDots 59 = .ok (.aload_n 0, 1) := by decide +kernel
theorem dX5_paintDots_60 : decode cX5_paintDots 60 = .ok (.getfield 64, 3) := by decide +kernel
theorem dX5_paintDots_63 : decode cX5_paintDots 63 = .ok (.iload 4, 2) := by decide +kernel
theorem dX5_paintDots_65 : decode cX5_paintDots 65 = .ok (.aload_n 0, 1) := by decide +kernel
theorem dX5_paintDots_66 : decode cX5_paintDots 66 = .ok (.iload_n 3, 1) := by decide +kernel
theorem dX5_paintDots_67 : decode cX5_paintDots 67 = .ok (.iload 4, 2) := by decide +kernel
theorem dX5_paintDots_69 : decode cX5_paintDots 69 = .ok (.invokevirtual 67, 3) := by decide +kernel
theorem dX5_paintDots_72 : decode cX5_paintDots 72 = .ok (.iastore, 1) := by decide +kernel
theorem dX5_paintDots_73 : decode cX5_paintDots 73 = .ok (.aload_n 0, 1) := by decide +kernel
theorem dX5_paintDots_74 : decode cX5_paintDots 74 = .ok (.getfield 71, 3) := by decide +kernel
theorem dX5_paintDots_77 : decode cX5_paintDots 77 = .ok (.iload 4, 2) := by decide +kernel
theorem dX5_paintDots_79 : decode cX5_paintDots 79 = .ok (.aload_n 0, 1) := by decide +kernel
theorem dX5_paintDots_80 : decode cX5_paintDots 80 = .ok (.getfield 9, 3) := by decide +kernel
theorem dX5_paintDots_83 : decode cX5_paintDots 83 = .ok (.iconst 1, 1) := by decide +kernel
theorem dX5_paintDots_84 : decode cX5_paintDots 84 = .ok (.iadd, 1) := by decide +kernel
theorem dX5_paintDots_85 : decode cX5_paintDots 85 = .ok (.iastore, 1) := by decide +kernel
theorem dX5_paintDots_86 : decode cX5_paintDots 86 = .ok (.aload_n 0, 1) := by decide +kernel
theorem dX5_paintDots_87 : decode cX5_paintDots 87 = .ok (.getfield 74, 3) := by decide +kernel
theorem dX5_paintDots_90 : decode cX5_paintDots 90 = .ok (.iload 4, 2) := by decide +kernel
theorem dX5_paintDots_92 : decode cX5_paintDots 92 = .ok (.aload_n 1, 1) := by decide +kernel
theorem dX5_paintDots_93 : decode cX5_paintDots 93 = .ok (.bipush 100, 2) := by decide +kernel
theorem dX5_paintDots_95 : decode cX5_paintDots 95 = .ok (.aload_n 0, 1) := by decide +kernel
theorem dX5_paintDots_96 : decode cX5_paintDots 96 = .ok (.iload 4, 2) := by decide +kernel
theorem dX5_paintDots_98 : decode cX5_paintDots 98 = .ok (.aload_n 0, 1) := by decide +kernel
theorem dX5_paintDots_99 : decode cX5_paintDots 99 = .ok (.getfield 71, 3) := by decide +kernel
theorem dX5_paintDots_102 : decode cX5_paintDots 102 = .ok (.iload 4, 2) := by decide +kernel
theorem dX5_paintDots_104 : decode cX5_paintDots 104 = .ok (.iaload, 1) := by decide +kernel
theorem dX5_paintDots_105 : decode cX5_paintDots 105 = .ok (.iload_n 3, 1) := by decide +kernel
theorem dX5_paintDots_106 : decode cX5_paintDots 106 = .ok (.iconst 0, 1) := by decide +kernel
theorem dX5_paintDots_107 : decode cX5_paintDots 107 = .ok (.invokevirtual 54, 3) := by decide +kernel
theorem dX5_paintDots_110 : decode cX5_paintDots 110 = .ok (.iastore, 1) := by decide +kernel
theorem dX5_paintDots_111 : decode cX5_paintDots 111 = .ok (.iinc 2 1, 3) := by decide +kernel
theorem dX5_paintDots_114 : decode cX5_paintDots 114 = .ok (.iinc 3 1, 3) := by decide +kernel
theorem dX5_paintDots_117 : decode cX5_paintDots 117 = .ok (.goto (-113), 3) := by decide +kernel
theorem dX5_paintDots_120 : decode cX5_paintDots 120 = .ok (.iload_n 2, 1) := by decide +kernel
theorem dX5_paintDots_121 : decode cX5_paintDots 121 = .ok (.ireturn, 1) := by decide +kernel
def md_X5_paintDots : List (Nat × Nat) := [(3, 9), (3, 10), (3, 11), (3, 12), (3, 13), (3, 14), (3, 15), (117, 0), (120, 0), (121, 0), (122, 0), (124, 0), (125, 0)]
set_option maxRecDepth 100000 in
set_option maxHeartbeats 4000000 in
theorem c_X5_paintDots {l : Launch} {D : q_D} (τ : q_T) (σ : q_V) (a0 : Nat) (a1 : Nat) (hI : q_I τ σ) (tA0 : τ a0 = some (6, 1)) (tA1 : τ a1 = some (3, 1)) : q_Ci l D yX5_paintDots cX5_paintDots 5 (some .int) 5 119 τ σ [.ref a0, .ref a1] (fun r σ1 => q_S md_X5_paintDots τ σ σ1 ∧ (q_r r (-2147483648) 2147483647) ∧ ((r.toInt, fx_N σ1) = f_X5_paintDots (fx_N σ) a0 a1)) := by
  refine q_meti rfl (Nat.le_of_ble_eq_true rfl) (fun X hG hE => ?_)
  show q_O X 0 0 τ σ 0 [(0, .ref a0), (1, .ref a1)] []
  have hS0 : q_S md_X5_paintDots τ σ σ := q_S.rf hI
  obtain ⟨Fv, hF⟩ : ∃ z, fx_eq z (f_X5_paintDots (fx_N σ) a0 a1) := ⟨_, fx_rf⟩
  have hF0 := hF
  unfold f_X5_paintDots at hF
  refine q_iconst (pc := 0) hG dX5_paintDots_0 ki_0 ?_
  refine q_istore_n (pc := 1) [(2, .int 0), (0, .ref a0), (1, .ref a1)] hG dX5_paintDots_1 (by decide) rfl ?_
  refine q_iconst (pc := 2) hG dX5_paintDots_2 ki_0 ?_
  refine q_istore_n (pc := 3) [(3, .int 0), (2, .int 0), (0, .ref a0), (1, .ref a1)] hG dX5_paintDots_3 (by decide) rfl ?_
  have J4 : ∀ (n4 : Nat) (p4_2 : Int32) (p4_3 : Int32) (σ4 : q_V), (q_r p4_3 0 2) → (q_S md_X5_paintDots τ σ σ4) → (fx_eq Fv (kL_X5_paintDots_4 a0 a1 n4 p4_2.toInt p4_3.toInt (fx_N σ4))) → ((2 - p4_3.toInt).toNat < n4) → q_O X 0 0 τ σ4 4 [(0, .ref a0), (1, .ref a1), (2, .int p4_2), (3, .int p4_3)] [] := by
    intro n4
    induction n4 with
    | zero => intro p4_2 p4_3 σ4 r4_3 hS4 hF hm4; exact absurd hm4 (Nat.not_lt_zero _)
    | succ n4 ih4 =>
      intro p4_2 p4_3 σ4 r4_3 hS4 hF hm4
      replace hF := (show fx_eq Fv (kB_X5_paintDots_4 (kL_X5_paintDots_4 a0 a1 n4) a0 a1 p4_2.toInt p4_3.toInt (fx_N σ4)) from hF)
      unfold kB_X5_paintDots_4 at hF
      refine q_iload_n (pc := 4) hG dX5_paintDots_4 3 rfl ?_
      refine q_iconst (pc := 5) hG dX5_paintDots_5 ki_2 ?_
      refine q_icmp_ge (pc := 6) hG 120 dX5_paintDots_6 rfl ?_ ?_
      · intro c6
        replace hF := fx_lt2 hF rfl tl_2 c6
        refine q_iload_n (pc := 120) hG dX5_paintDots_120 2 rfl ?_
        exact q_irt hG hE dX5_paintDots_121 ⟨hS4, (q_r_any p4_2), (fx_end hF hF0)⟩
      intro c6
      replace hF := fx_lt1 hF rfl tl_2 c6
      refine q_aload_n (pc := 9) hG dX5_paintDots_9 0 rfl ?_
      refine q_getR (pc := 10) (k2 := 124) (n2 := 2) hG fl_X5_36 dX5_paintDots_10 hS4.1 tA0 ff_6_10 (fun b10 f10 T10 => ?_)
      replace hF := fx_R hF f10 rfl
      have f_1 := (hS4.2 _ _ _ _ tA0 rfl).symm.trans f10
      refine q_iload_n (pc := 13) hG dX5_paintDots_13 3 rfl ?_
      have r_2 := q_rlt r4_3 rl_2 c6 1 (by decide)
      refine q_iald (pc := 14) hG dX5_paintDots_14 hS4.1 ai_124 T10 (q_ix r_2 (by decide)) (fun v14 f14 g14 => ?_)
      replace hF := fx_I hF f14 rfl
      refine q_istore (pc := 15) [(4, .int v14), (0, .ref a0), (1, .ref a1), (2, .int p4_2), (3, .int p4_3)] hG dX5_paintDots_15 (by decide) rfl ?_
      refine q_aload_n (pc := 17) hG dX5_paintDots_17 1 rfl ?_
      refine q_iload (pc := 18) hG dX5_paintDots_18 0 rfl ?_
      refine q_pV (pc := 20) [.int v14] [] hG (c_X7_isDot τ σ4 a0 v14 hS4.1 tA0) my_X7_isDot mv_X7_isDot w467 dX5_paintDots_20 tA0 (by decide) rfl rfl (Nat.le_of_ble_eq_true rfl) (by decide) (fun v20 p20 => ?_)
      replace hF := fx_E hF p20.2.1
      have J114 : ∀ (p114_2 : Int32) (σ114 : q_V), (q_S md_X5_paintDots τ σ σ114) → (fx_eq Fv (kJ_X5_paintDots_114 p4_3.toInt (kL_X5_paintDots_4 a0 a1 n4) p114_2.toInt (fx_N σ114))) → q_O X 0 0 τ σ114 114 [(0, .ref a0), (1, .ref a1), (2, .int p114_2), (3, .int p4_3)] [] := by
        intro p114_2 σ114 hS114 hF
        unfold kJ_X5_paintDots_114 at hF
        obtain ⟨v114, e114⟩ : ∃ z : Int32, z = p4_3 + Int32.ofInt 1 := ⟨_, rfl⟩
        have h114 := q_incN (lo := 1) (hi := 2) r_2 (by decide) (by decide) e114
        replace hF := fx_add hF rfl rfl h114.1
        refine q_iinc (pc := 114) [(3, .int v114), (0, .ref a0), (1, .ref a1), (2, .int p114_2)] hG dX5_paintDots_114 3 rfl e114 (by decide) rfl ?_
        refine q_goto (pc := 117) 4 hG dX5_paintDots_117 rfl ?_
        refine q_lv [1, 2, 3, 0] rfl ?_
        exact ih4 p114_2 v114 σ114 (q_r.mono h114.2 (by decide)) hS114 hF (q_measU hm4 (by have o0 := c6; have o1 := h114.1; have o2 := r_2; have o3 := h114.2; have l4 := tl_2; unfold q_r at o2 o3; omega) (h114.2).2)
      refine q_if_ne (pc := 23) hG 29 dX5_paintDots_23 rfl ?_ ?_
      · intro c23
        have g_3 := p20.2.2.1 (q_one p20.1 c23)
        have r_4 := q_rge g14 rl_0 (show (0 : Int32).toInt ≤ _ from g_3.1)
        replace hF := fx_eq2 hF rfl rfl c23
        refine q_aload_n (pc := 29) hG dX5_paintDots_29 1 rfl ?_
        refine q_getR (pc := 30) (k2 := 125) (n2 := 2) hG fl_X5_51 dX5_paintDots_30 hS4.1 tA0 ff_6_11 (fun b30 f30 T30 => ?_)
        replace hF := fx_R hF f30 rfl
        have f_5 := (hS4.2 _ _ _ _ tA0 rfl).symm.trans f30
        refine q_iload_n (pc := 33) hG dX5_paintDots_33 4 rfl ?_
        refine q_dup2 (pc := 34) hG dX5_paintDots_34 rfl rfl ?_
        refine q_iald (pc := 35) hG dX5_paintDots_35 hS4.1 ai_125 T30 (q_ix r_2 (by decide)) (fun v35 f35 g35 => ?_)
        replace hF := fx_I hF f35 rfl
        refine q_iconst (pc := 36) hG dX5_paintDots_36 ki_1 ?_
        refine q_isub (pc := 37) hG dX5_paintDots_37 (fun v37 e37 => ?_)
        replace hF := fx_B_sub hF rfl tl_1 e37
        refine q_iast (pc := 38) hG dX5_paintDots_38 hS4 ai_125 T30 (q_ix r_2 (by decide)) (q_r_any v37) (by decide) rfl (fun s38 u38 w38 => ?_)
        replace hF := fx_P hF u38 rfl rfl
        have m38 : s38 b30 p4_3.toInt.toNat = .int v37 := by rw [u38]; exact q_up_same
        refine q_aload_n (pc := 39) hG dX5_paintDots_39 1 rfl ?_
        refine q_getV (pc := 40) (v := .ref b30) hG fl_X5_51 dX5_paintDots_40 tA0 (w38.same tA0 rfl f_5) ?_
        refine q_iload_n (pc := 43) hG dX5_paintDots_43 4 rfl ?_
        refine q_ialdV (pc := 44) (v := .int v37) hG dX5_paintDots_44 T30 (by decide) (by decide) (q_ix r_2 (by decide)) m38 ?_
        refine q_if_le (pc := 45) hG 51 dX5_paintDots_45 rfl ?_ ?_
        · intro c45
          replace hF := fx_lt2 hF rfl rfl c45
          refine q_aload_n (pc := 51) hG dX5_paintDots_51 1 rfl ?_
          refine q_getV (pc := 52) (v := .ref b10) hG fl_X5_36 dX5_paintDots_52 tA0 (w38.same tA0 rfl f_1) ?_
          refine q_iload_n (pc := 55) hG dX5_paintDots_55 4 rfl ?_
          refine q_bipush (pc := 56) hG dX5_paintDots_56 kb_m2 ?_
          refine q_iast (pc := 58) hG dX5_paintDots_58 w38 ai_124 T10 (q_ix r_2 (by decide)) rl_m2 (by decide) rfl (fun s58 u58 w58 => ?_)
          replace hF := fx_P hF u58 rfl tl_m2
          have m58 : s58 b10 p4_3.toInt.toNat = .int (-2) := by rw [u58]; exact q_up_same
          refine q_aload_n (pc := 59) hG dX5_paintDots_59 1 rfl ?_
          refine q_getR (pc := 60) (k2 := 120) (n2 := 64) hG fl_X5_64 dX5_paintDots_60 w58.1 tA0 ff_6_5 (fun b60 f60 T60 => ?_)
          replace hF := fx_R hF f60 rfl
          have f_6 := (w58.2 _ _ _ _ tA0 rfl).symm.trans f60
          refine q_iload (pc := 63) hG dX5_paintDots_63 0 rfl ?_
          refine q_aload_n (pc := 65) hG dX5_paintDots_65 1 rfl ?_
          refine q_iload_n (pc := 66) hG dX5_paintDots_66 4 rfl ?_
          refine q_iload (pc := 67) hG dX5_paintDots_67 0 rfl ?_
          refine q_pV (pc := 69) [.int p4_3, .int v14] [.int v14, .ref b60] hG (c_X7_offsetBy τ s58 a0 p4_3 v14 w58.1 tA0 r_2 r_4) my_X7_offsetBy mv_X7_offsetBy w468 dX5_paintDots_69 tA0 (by decide) rfl rfl (Nat.le_of_ble_eq_true rfl) (by decide) (fun v69 p69 => ?_)
          replace hF := fx_E hF p69.2
          refine q_iast (pc := 72) hG dX5_paintDots_72 w58 ai_120 T60 (q_ix r_4 (by decide)) p69.1 (by decide) rfl (fun s72 u72 w72 => ?_)
          replace hF := fx_P hF u72 rfl rfl
          have m72 : s72 b60 v14.toInt.toNat = .int v69 := by rw [u72]; exact q_up_same
          refine q_aload_n (pc := 73) hG dX5_paintDots_73 1 rfl ?_
          refine q_getR (pc := 74) (k2 := 121) (n2 := 64) hG fl_X5_71 dX5_paintDots_74 w72.1 tA0 ff_6_6 (fun b74 f74 T74 => ?_)
          replace hF := fx_R hF f74 rfl
          have f_7 := (w72.2 _ _ _ _ tA0 rfl).symm.trans f74
          refine q_iload (pc := 77) hG dX5_paintDots_77 0 rfl ?_
          refine q_aload_n (pc := 79) hG dX5_paintDots_79 1 rfl ?_
          refine q_getI (pc := 80) hG fl_X5_9 dX5_paintDots_80 w72.1 tA0 ff_6_17 (fun v80 f80 g80 => ?_)
          replace hF := fx_I hF f80 rfl
          have f_8 := (w72.2 _ _ _ _ tA0 rfl).symm.trans f80
          refine q_iconst (pc := 83) hG dX5_paintDots_83 ki_1 ?_
          refine q_iadd (pc := 84) hG dX5_paintDots_84 (fun v84 e84 => ?_)
          replace hF := fx_B_add hF rfl tl_1 e84
          refine q_iast (pc := 85) hG dX5_paintDots_85 w72 ai_121 T74 (q_ix r_4 (by decide)) (q_r_any v84) (by decide) rfl (fun s85 u85 w85 => ?_)
          replace hF := fx_P hF u85 rfl rfl
          have m85 : s85 b74 v14.toInt.toNat = .int v84 := by rw [u85]; exact q_up_same
          refine q_aload_n (pc := 86) hG dX5_paintDots_86 1 rfl ?_
          refine q_getR (pc := 87) (k2 := 122) (n2 := 64) hG fl_X5_74 dX5_paintDots_87 w85.1 tA0 ff_6_7 (fun b87 f87 T87 => ?_)
          replace hF := fx_R hF f87 rfl
          have f_9 := (w85.2 _ _ _ _ tA0 rfl).symm.trans f87
          refine q_iload (pc := 90) hG dX5_paintDots_90 0 rfl ?_
          refine q_aload_n (pc := 92) hG dX5_paintDots_92 2 rfl ?_
          refine q_bipush (pc := 93) hG dX5_paintDots_93 kb_100 ?_
          refine q_aload_n (pc := 95) hG dX5_paintDots_95 1 rfl ?_
          refine q_iload (pc := 96) hG dX5_paintDots_96 0 rfl ?_
          refine q_aload_n (pc := 98) hG dX5_paintDots_98 1 rfl ?_
          refine q_getV (pc := 99) (v := .ref b74) hG fl_X5_71 dX5_paintDots_99 tA0 (w85.same tA0 rfl f_7) ?_
          refine q_iload (pc := 102) hG dX5_paintDots_102 0 rfl ?_
          refine q_ialdV (pc := 104) (v := .int v84) hG dX5_paintDots_104 T74 (by decide) (by decide) (q_ix r_4 (by decide)) m85 ?_
          refine q_iload_n (pc := 105) hG dX5_paintDots_105 4 rfl ?_
          refine q_iconst (pc := 106) hG dX5_paintDots_106 ki_0 ?_
          refine q_cVi (pc := 107) [.int 100, .ref a0, .int v14, .int v84, .int p4_3, .int 0] [.int v14, .ref b87] hG (c_X3_ask τ s85 a1 100 a0 v14 v84 p4_3 0 w85.1 tA1 tA0) my_X3_ask mv_X3_ask w431 dX5_paintDots_107 tA1 (by decide) rfl rfl (Nat.le_of_ble_eq_true rfl) (by decide) (fun v107 s107 p107 => ?_)
          have w107 := w85.trans p107.1 rfl
          have fq107 := p107.2.2
          rewrite [tl_0, tl_100] at fq107
          replace hF := fx_C hF fq107
          refine q_iast (pc := 110) hG dX5_paintDots_110 w107 ai_122 T87 (q_ix r_4 (by decide)) p107.2.1 (by decide) rfl (fun s110 u110 w110 => ?_)
          replace hF := fx_P hF u110 rfl rfl
          have m110 : s110 b87 v14.toInt.toNat = .int v107 := by rw [u110]; exact q_up_same
          obtain ⟨v111, e111⟩ : ∃ z : Int32, z = p4_2 + Int32.ofInt 1 := ⟨_, rfl⟩
          replace hF := fx_inc hF rfl e111
          refine q_iinc (pc := 111) [(2, .int v111), (4, .int v14), (0, .ref a0), (1, .ref a1), (3, .int p4_3)] hG dX5_paintDots_111 3 rfl e111 (by decide) rfl ?_
          refine q_lv [2, 3, 0, 4] rfl ?_
          exact J114 v111 s110 w110 hF
        intro c45
        replace hF := fx_lt1 hF rfl rfl c45
        refine q_goto (pc := 48) 114 hG dX5_paintDots_48 rfl ?_
        refine q_lv [1, 2, 3, 4] rfl ?_
        exact J114 p4_2 s38 w38 hF
      intro c23
      replace hF := fx_eq1 hF rfl rfl c23
      refine q_goto (pc := 26) 114 hG dX5_paintDots_26 rfl ?_
      refine q_lv [1, 2, 3, 4] rfl ?_
      exact J114 p4_2 σ4 hS4 hF
  refine q_lv [2, 3, 1, 0] rfl ?_
  exact J4 ((2 - (0 : Int32).toInt).toNat + 1) 0 0 σ (q_r.mono rl_0 (by decide)) hS0 (by rw [tl_0]; exact hF) (Nat.lt_succ_self _)
theorem dX5_drive_0 : decode cX5_drive 0 = .ok (.iconst 0, 1) := by decide +kernel
theorem dX5_drive_1 : decode cX5_drive 1 = .ok (.istore_n 1, 1) := by decide +kernel
theorem dX5_drive_2 : decode cX5_drive 2 = .ok (.iload_n 1, 1) := by decide +kernel
theorem dX5_drive_3 : decode cX5_drive 3 = .ok (.bipush 12, 2) := by decide +kernel
theorem dX5_drive_5 : decode cX5_drive 5 = .ok (.if_icmp .ge 90, 3) := by decide +kernel
theorem dX5_drive_8 : decode cX5_drive 8 = .ok (.aload_n 0, 1) := by decide +kernel
theorem dX5_drive_9 : decode cX5_drive 9 = .ok (.getfield 9, 3) := by decide +kernel
theorem dX5_drive_12 : decode cX5_drive 12 = .ok (.aload_n 0, 1) := by decide +kernel
theorem dX5_drive_13 : decode cX5_drive 13 = .ok (.getfield 77, 3) := by decide +kernel
theorem dX5_drive_16 : decode cX5_drive 16 = .ok (.iload_n 1, 1) := by decide +kernel
theorem dX5_drive_17 : decode cX5_drive 17 = .ok (.iaload, 1) := by decide +kernel
theorem dX5_drive_18 : decode cX5_drive 18 = .ok (.isub, 1) := by decide +kernel
theorem dX5_drive_19 : decode cX5_drive 19 = .ok (.istore_n 2, 1) := by decide +kernel
theorem dX5_drive_20 : decode cX5_drive 20 = .ok (.aload_n 0, 1) := by decide +kernel
theorem dX5_drive_21 : decode cX5_drive 21 = .ok (.getfield 80, 3) := by decide +kernel
theorem dX5_drive_24 : decode cX5_drive 24 = .ok (.iload_n 1, 1) := by decide +kernel
theorem dX5_drive_25 : decode cX5_drive 25 = .ok (.iaload, 1) := by decide +kernel
theorem dX5_drive_26 : decode cX5_drive 26 = .ok (.iconst (-1), 1) := by decide +kernel
theorem dX5_drive_27 : decode cX5_drive 27 = .ok (.if_icmp .eq 62, 3) := by decide +kernel
theorem dX5_drive_30 : decode cX5_drive 30 = .ok (.iload_n 2, 1) := by decide +kernel
theorem dX5_drive_31 : decode cX5_drive 31 = .ok (.ifCond .ge 6, 3) := by decide +kernel
theorem dX5_drive_34 : decode cX5_drive 34 = .ok (.goto 55, 3) := by decide +kernel
theorem dX5_drive_37 : decode cX5_drive 37 = .ok (.aload_n 0, 1) := by decide +kernel
theorem dX5_drive_38 : decode cX5_drive 38 = .ok (.getfield 80, 3) := by decide +kernel
theorem dX5_drive_41 : decode cX5_drive 41 = .ok (.iload_n 1, 1) := by decide +kernel
theorem dX5_drive_42 : decode cX5_drive 42 = .ok (.iaload, 1) := by decide +kernel
theorem dX5_drive_43 : decode cX5_drive 43 = .ok (.ifCond .ne 7, 3) := by decide +kernel
theorem dX5_drive_46 : decode cX5_drive 46 = .ok (.iload_n 2, 1) := by decide +kernel
theorem dX5_drive_47 : decode cX5_drive 47 = .ok (.goto 11, 3) := by decide +kernel
theorem dX5_drive_50 : decode cX5_drive 50 = .ok (.aload_n 0, 1) := by decide +kernel
theorem dX5_drive_51 : decode cX5_drive 51 = .ok (.getfield 83, 3) := by decide +kernel
theorem dX5_drive_54 : decode cX5_drive 54 = .ok (.iconst 1, 1) := by decide +kernel
theorem dX5_drive_55 : decode cX5_drive 55 = .ok (.isub, 1) := by decide +kernel
theorem dX5_drive_56 : decode cX5_drive 56 = .ok (.iload_n 2, 1) := by decide +kernel
theorem dX5_drive_57 : decode cX5_drive 57 = .ok (.isub, 1) := by decide +kernel
theorem dX5_drive_58 : decode cX5_drive 58 = .ok (.istore_n 3, 1) := by decide +kernel
theorem dX5_drive_59 : decode cX5_drive 59 = .ok (.aload_n 0, 1) := by decide +kernel
theorem dX5_drive_60 : decode cX5_drive 60 = .ok (.iload_n 3, 1) := by decide +kernel
theorem dX5_drive_61 : decode cX5_drive 61 = .ok (.invokevirtual 60, 3) := by decide +kernel
theorem dX5_drive_64 : decode cX5_drive 64 = .ok (.ifCond .eq 25, 3) := by decide +kernel
theorem dX5_drive_67 : decode cX5_drive 67 = .ok (.aload_n 0, 1) := by decide +kernel
theorem dX5_drive_68 : decode cX5_drive 68 = .ok (.iload_n 3, 1) := by decide +kernel
theorem dX5_drive_69 : decode cX5_drive 69 = .ok (.invokevirtual 86, 3) := by decide +kernel
theorem dX5_drive_72 : decode cX5_drive 72 = .ok (.ifCond .ne 11, 3) := by decide +kernel
theorem dX5_drive_75 : decode cX5_drive 75 = .ok (.aload_n 0, 1) := by decide +kernel
theorem dX5_drive_76 : decode cX5_drive 76 = .ok (.iload_n 3, 1) := by decide +kernel
theorem dX5_drive_77 : decode cX5_drive 77 = .ok (.invokevirtual 89, 3) := by decide +kernel
theorem dX5_drive_80 : decode cX5_drive 80 = .ok (.ifCond .eq 9, 3) := by decide +kernel
theorem dX5_drive_83 : decode cX5_drive 83 = .ok (.aload_n 0, 1) := by decide +kernel
theorem dX5_drive_84 : decode cX5_drive 84 = .ok (.iload_n 3, 1) := by decide +kernel
theorem dX5_drive_85 : decode cX5_drive 85 = .ok (.iload_n 1, 1) := by decide +kernel
theorem dX5_drive_86 : decode cX5_drive 86 = .ok (.invokevirtual 92, 3) := by decide +kernel
theorem dX5_drive_89 : decode cX5_drive 89 = .ok (.iinc 1 1, 3) := by decide +kernel
theorem dX5_drive_92 : decode cX5_drive 92 = .ok (.goto (-90), 3) := by decide +kernel
theorem dX5_drive_95 : decode cX5_drive 95 = .ok (.return_, 1) := by decide +kernel
def md_X5_drive : List (Nat × Nat) := [(123, 0)]
set_option maxRecDepth 100000 in
set_option maxHeartbeats 4000000 in
theorem c_X5_drive {l : Launch} {D : q_D} (τ : q_T) (σ : q_V) (a0 : Nat) (hI : q_I τ σ) (tA0 : τ a0 = some (6, 1)) : q_Cv l D yX5_drive cX5_drive 4 none 2 43 τ σ [.ref a0] (fun σ1 => q_S md_X5_drive τ σ σ1 ∧ (fx_N σ1 = f_X5_drive (fx_N σ) a0)) := by
  refine q_metv rfl (Nat.le_of_ble_eq_true rfl) (fun X hG hE => ?_)
  show q_O X 0 0 τ σ 0 [(0, .ref a0)] []
  have hS0 : q_S md_X5_drive τ σ σ := q_S.rf hI
  obtain ⟨Fv, hF⟩ : ∃ z, fx_eq z (f_X5_drive (fx_N σ) a0) := ⟨_, fx_rf⟩
  have hF0 := hF
  unfold f_X5_drive at hF
  refine q_iconst (pc := 0) hG dX5_drive_0 ki_0 ?_
  refine q_istore_n (pc := 1) [(1, .int 0), (0, .ref a0)] hG dX5_drive_1 (by decide) rfl ?_
  have J2 : ∀ (n2 : Nat) (p2_1 : Int32) (σ2 : q_V), (q_r p2_1 0 12) → (q_S md_X5_drive τ σ σ2) → (fx_eq Fv (kL_X5_drive_2 a0 n2 p2_1.toInt (fx_N σ2))) → ((12 - p2_1.toInt).toNat < n2) → q_O X 0 0 τ σ2 2 [(0, .ref a0), (1, .int p2_1)] [] := by
    intro n2
    induction n2 with
    | zero => intro p2_1 σ2 r2_1 hS2 hF hm2; exact absurd hm2 (Nat.not_lt_zero _)
    | succ n2 ih2 =>
      intro p2_1 σ2 r2_1 hS2 hF hm2
      replace hF := (show fx_eq Fv (kB_X5_drive_2 (kL_X5_drive_2 a0 n2) a0 p2_1.toInt (fx_N σ2)) from hF)
      unfold kB_X5_drive_2 at hF
      refine q_iload_n (pc := 2) hG dX5_drive_2 1 rfl ?_
      refine q_bipush (pc := 3) hG dX5_drive_3 kb_12 ?_
      refine q_icmp_ge (pc := 5) hG 95 dX5_drive_5 rfl ?_ ?_
      · intro c5
        replace hF := fx_lt2 hF rfl tl_12 c5
        exact q_vrt hG hE dX5_drive_95 ⟨hS2, (fx_end hF hF0)⟩
      intro c5
      replace hF := fx_lt1 hF rfl tl_12 c5
      refine q_aload_n (pc := 8) hG dX5_drive_8 0 rfl ?_
      refine q_getI (pc := 9) hG fl_X5_9 dX5_drive_9 hS2.1 tA0 ff_6_17 (fun v9 f9 g9 => ?_)
      replace hF := fx_I hF f9 rfl
      have f_1 := (hS2.2 _ _ _ _ tA0 rfl).symm.trans f9
      refine q_aload_n (pc := 12) hG dX5_drive_12 0 rfl ?_
      refine q_getR (pc := 13) (k2 := 128) (n2 := 12) hG fl_X5_77 dX5_drive_13 hS2.1 tA0 ff_6_14 (fun b13 f13 T13 => ?_)
      replace hF := fx_R hF f13 rfl
      have f_2 := (hS2.2 _ _ _ _ tA0 rfl).symm.trans f13
      refine q_iload_n (pc := 16) hG dX5_drive_16 1 rfl ?_
      have r_3 := q_rlt r2_1 rl_12 c5 11 (by decide)
      refine q_iald (pc := 17) hG dX5_drive_17 hS2.1 ai_128 T13 (q_ix r_3 (by decide)) (fun v17 f17 g17 => ?_)
      replace hF := fx_I hF f17 rfl
      have f_4 := (hS2.2 _ _ _ _ T13 rfl).symm.trans f17
      refine q_isub (pc := 18) hG dX5_drive_18 (fun v18 e18 => ?_)
      replace hF := fx_B_sub hF rfl rfl e18
      refine q_istore_n (pc := 19) [(2, .int v18), (0, .ref a0), (1, .int p2_1)] hG dX5_drive_19 (by decide) rfl ?_
      refine q_aload_n (pc := 20) hG dX5_drive_20 1 rfl ?_
      refine q_getR (pc := 21) (k2 := 127) (n2 := 12) hG fl_X5_80 dX5_drive_21 hS2.1 tA0 ff_6_13 (fun b21 f21 T21 => ?_)
      replace hF := fx_R hF f21 rfl
      have f_5 := (hS2.2 _ _ _ _ tA0 rfl).symm.trans f21
      refine q_iload_n (pc := 24) hG dX5_drive_24 2 rfl ?_
      refine q_iald (pc := 25) hG dX5_drive_25 hS2.1 ai_127 T21 (q_ix r_3 (by decide)) (fun v25 f25 g25 => ?_)
      replace hF := fx_I hF f25 rfl
      have f_6 := (hS2.2 _ _ _ _ T21 rfl).symm.trans f25
      refine q_iconst (pc := 26) hG dX5_drive_26 ki_m1 ?_
      have J89 : ∀ (σ89 : q_V), (q_S md_X5_drive τ σ σ89) → (fx_eq Fv (kJ_X5_drive_89 p2_1.toInt (kL_X5_drive_2 a0 n2) (fx_N σ89))) → q_O X 0 0 τ σ89 89 [(0, .ref a0), (1, .int p2_1)] [] := by
        intro σ89 hS89 hF
        unfold kJ_X5_drive_89 at hF
        obtain ⟨v89, e89⟩ : ∃ z : Int32, z = p2_1 + Int32.ofInt 1 := ⟨_, rfl⟩
        have h89 := q_incN (lo := 1) (hi := 12) r_3 (by decide) (by decide) e89
        replace hF := fx_add hF rfl rfl h89.1
        refine q_iinc (pc := 89) [(1, .int v89), (0, .ref a0)] hG dX5_drive_89 1 rfl e89 (by decide) rfl ?_
        refine q_goto (pc := 92) 2 hG dX5_drive_92 rfl ?_
        refine q_lv [1, 0] rfl ?_
        exact ih2 v89 σ89 (q_r.mono h89.2 (by decide)) hS89 hF (q_measU hm2 (by have o0 := c5; have o1 := h89.1; have o2 := r_3; have o3 := h89.2; have l4 := tl_12; unfold q_r at o2 o3; omega) (h89.2).2)
      refine q_icmp_eq (pc := 27) hG 89 dX5_drive_27 rfl ?_ ?_
      · intro c27
        replace hF := fx_eq1 hF rfl tl_m1 c27
        refine q_lv [1, 2] rfl ?_
        exact J89 σ2 hS2 hF
      intro c27
      replace hF := fx_eq2 hF rfl tl_m1 c27
      refine q_iload_n (pc := 30) hG dX5_drive_30 0 rfl ?_
      refine q_if_ge (pc := 31) hG 37 dX5_drive_31 rfl ?_ ?_
      · intro c31
        replace hF := fx_lt2 hF rfl rfl c31
        refine q_aload_n (pc := 37) hG dX5_drive_37 1 rfl ?_
        refine q_getV (pc := 38) (v := .ref b21) hG fl_X5_80 dX5_drive_38 tA0 (hS2.same tA0 rfl f_5) ?_
        refine q_iload_n (pc := 41) hG dX5_drive_41 2 rfl ?_
        refine q_ialdV (pc := 42) (v := .int v25) hG dX5_drive_42 T21 (by decide) (by decide) (q_ix r_3 (by decide)) (hS2.same T21 rfl f_6) ?_
        have J58 : ∀ (p58_s0 : Int32), (q_r p58_s0 (-2147483640) 2147483647) → (fx_eq Fv (kJ_X5_drive_58 (fx_N σ2) a0 p2_1.toInt (kL_X5_drive_2 a0 n2) p58_s0.toInt)) → q_O X 0 0 τ σ2 58 [(0, .ref a0), (1, .int p2_1)] [.int p58_s0] := by
          intro p58_s0 r58_s0 hF
          unfold kJ_X5_drive_58 at hF
          refine q_istore_n (pc := 58) [(3, .int p58_s0), (0, .ref a0), (1, .int p2_1)] hG dX5_drive_58 (by decide) rfl ?_
          refine q_aload_n (pc := 59) hG dX5_drive_59 1 rfl ?_
          refine q_iload_n (pc := 60) hG dX5_drive_60 0 rfl ?_
          refine q_pV (pc := 61) [.int p58_s0] [] hG (c_X7_isDot τ σ2 a0 p58_s0 hS2.1 tA0) my_X7_isDot mv_X7_isDot w467 dX5_drive_61 tA0 (by decide) rfl rfl (Nat.le_of_ble_eq_true rfl) (by decide) (fun v61 p61 => ?_)
          replace hF := fx_E hF p61.2.1
          refine q_if_eq (pc := 64) hG 89 dX5_drive_64 rfl ?_ ?_
          · intro c64
            replace hF := fx_eq1 hF rfl rfl c64
            refine q_lv [1, 2] rfl ?_
            exact J89 σ2 hS2 hF
          intro c64
          have g_7 := p61.2.2.1 (q_one p61.1 c64)
          have r_8 := q_rge r58_s0 rl_0 (show (0 : Int32).toInt ≤ _ from g_7.1)
          replace hF := fx_eq2 hF rfl rfl c64
          refine q_aload_n (pc := 67) hG dX5_drive_67 1 rfl ?_
          refine q_iload_n (pc := 68) hG dX5_drive_68 0 rfl ?_
          have r_9 := q_rle r_8 rl_63 (show _ ≤ (63 : Int32).toInt from g_7.2)
          refine q_pV (pc := 69) [.int p58_s0] [] hG (c_X7_isWet τ σ2 a0 p58_s0 hS2.1 tA0 r_9) my_X7_isWet mv_X7_isWet w475 dX5_drive_69 tA0 (by decide) rfl rfl (Nat.le_of_ble_eq_true rfl) (by decide) (fun v69 p69 => ?_)
          replace hF := fx_E hF p69.2
          have J83 : (fx_eq Fv (kJ_X5_drive_83 (fx_N σ2) a0 p58_s0.toInt p2_1.toInt (kL_X5_drive_2 a0 n2))) → q_O X 0 0 τ σ2 83 [(0, .ref a0), (1, .int p2_1), (3, .int p58_s0)] [] := by
            intro hF
            unfold kJ_X5_drive_83 at hF
            refine q_aload_n (pc := 83) hG dX5_drive_83 0 rfl ?_
            refine q_iload_n (pc := 84) hG dX5_drive_84 2 rfl ?_
            refine q_iload_n (pc := 85) hG dX5_drive_85 1 rfl ?_
            refine q_cVv (pc := 86) [.int p58_s0, .int p2_1] [] hG (c_X7_spoil τ σ2 a0 p58_s0 p2_1 hS2.1 tA0 r_9) my_X7_spoil mv_X7_spoil w477 dX5_drive_86 tA0 (by decide) rfl rfl (Nat.le_of_ble_eq_true rfl) (by decide) (fun s86 p86 => ?_)
            have w86 := hS2.trans p86.1 rfl
            replace hF := fx_S hF p86.2
            refine q_lv [0, 1] rfl ?_
            exact J89 s86 w86 hF
          refine q_if_ne (pc := 72) hG 83 dX5_drive_72 rfl ?_ ?_
          · intro c72
            replace hF := fx_eq2 hF rfl rfl c72
            refine q_lv [1, 2, 0] rfl ?_
            exact J83 hF
          intro c72
          replace hF := fx_eq1 hF rfl rfl c72
          refine q_aload_n (pc := 75) hG dX5_drive_75 1 rfl ?_
          refine q_iload_n (pc := 76) hG dX5_drive_76 0 rfl ?_
          refine q_pV (pc := 77) [.int p58_s0] [] hG (c_X7_isBeingPainted τ σ2 a0 p58_s0 hS2.1 tA0) my_X7_isBeingPainted mv_X7_isBeingPainted w476 dX5_drive_77 tA0 (by decide) rfl rfl (Nat.le_of_ble_eq_true rfl) (by decide) (fun v77 p77 => ?_)
          replace hF := fx_E hF p77.2
          refine q_if_eq (pc := 80) hG 89 dX5_drive_80 rfl ?_ ?_
          · intro c80
            replace hF := fx_eq1 hF rfl rfl c80
            refine q_lv [1, 2] rfl ?_
            exact J89 σ2 hS2 hF
          intro c80
          replace hF := fx_eq2 hF rfl rfl c80
          refine q_lv [1, 2, 0] rfl ?_
          exact J83 hF
        refine q_if_ne (pc := 43) hG 50 dX5_drive_43 rfl ?_ ?_
        · intro c43
          replace hF := fx_eq2 hF rfl rfl c43
          refine q_aload_n (pc := 50) hG dX5_drive_50 1 rfl ?_
          refine q_getI (pc := 51) hG fl_X5_83 dX5_drive_51 hS2.1 tA0 ff_6_0 (fun v51 f51 g51 => ?_)
          replace hF := fx_I hF f51 rfl
          have f_10 := (hS2.2 _ _ _ _ tA0 rfl).symm.trans f51
          refine q_iconst (pc := 54) hG dX5_drive_54 ki_1 ?_
          refine q_isub (pc := 55) hG dX5_drive_55 (fun v55 e55 => ?_)
          replace hF := fx_sub hF rfl tl_1 (q_subN (lo := 7) (hi := 63) e55 g51 rl_1 (by decide)).1
          refine q_iload_n (pc := 56) hG dX5_drive_56 0 rfl ?_
          refine q_isub (pc := 57) hG dX5_drive_57 (fun v57 e57 => ?_)
          have r_11 := (q_subN (lo := 7) (hi := 63) e55 g51 rl_1 (by decide)).2
          have r_12 := q_zge (q_r_any v18) c31
          replace hF := fx_sub hF rfl rfl (q_subN (lo := (-2147483640)) (hi := 63) e57 r_11 r_12 (by decide)).1
          refine q_lv [1, 2] rfl ?_
          have r_13 := (q_subN (lo := (-2147483640)) (hi := 63) e57 r_11 r_12 (by decide)).2
          exact J58 v57 (q_r.mono r_13 (by decide)) hF
        intro c43
        replace hF := fx_eq1 hF rfl rfl c43
        refine q_iload_n (pc := 46) hG dX5_drive_46 0 rfl ?_
        refine q_goto (pc := 47) 58 hG dX5_drive_47 rfl ?_
        refine q_lv [1, 2] rfl ?_
        have r_14 := q_zge (q_r_any v18) c31
        exact J58 v18 (q_r.mono r_14 (by decide)) hF
      intro c31
      replace hF := fx_lt1 hF rfl rfl c31
      refine q_goto (pc := 34) 89 hG dX5_drive_34 rfl ?_
      refine q_lv [1, 2] rfl ?_
      exact J89 σ2 hS2 hF
  refine q_lv [1, 0] rfl ?_
  exact J2 ((12 - (0 : Int32).toInt).toNat + 1) 0 σ (q_r.mono rl_0 (by decide)) hS0 (by rw [tl_0]; exact hF) (Nat.lt_succ_self _)
theorem dX5_letDewFall_0 : decode cX5_letDewFall 0 = .ok (.aload_n 0, 1) := by decide +kernel
theorem dX5_letDewFall_1 : decode cX5_letDewFall 1 = .ok (.getfield 9, 3) := by decide +kernel
theorem dX5_letDewFall_4 : decode cX5_letDewFall 4 = .ok (.aload_n 0, 1) := by decide +kernel
theorem dX5_letDewFall_5 : decode cX5_letDewFall 5 = .ok (.getfield 96, 3) := by decide +kernel
theorem dX5_letDewFall_8 : decode cX5_letDewFall 8 = .ok (.if_icmp .eq 4, 3) := by decide +kernel
theorem dX5_letDewFall_11 : decode cX5_letDewFall 11 = .ok (.return_, 1) := by decide +kernel
theorem dX5_letDewFall_12 : decode cX5_letDewFall 12 = .ok (.iconst 0, 1) := by decide +kernel
theorem dX5_letDewFall_13 : decode cX5_letDewFall 13 = .ok (.istore_n 1, 1) := by decide +kernel
theorem dX5_letDewFall_14 : decode cX5_letDewFall 14 = .ok (.iload_n 1, 1) := by decide +kernel
theorem dX5_letDewFall_15 : decode cX5_letDewFall 15 = .ok (.aload_n 0, 1) := by decide +kernel
theorem dX5_letDewFall_16 : decode cX5_letDewFall 16 = .ok (.getfield 83, 3) := by decide +kernel
theorem dX5_letDewFall_19 : decode cX5_letDewFall 19 = .ok (.if_icmp .ge 24, 3) := by decide +kernel
theorem dX5_letDewFall_22 : decode cX5_letDewFall 22 = .ok (.aload_n 0, 1) := by decide +kernel
theorem dX5_letDewFall_23 : decode cX5_letDewFall 23 = .ok (.iload_n 1, 1) := by decide +kernel
theorem dX5_letDewFall_24 : decode cX5_letDewFall 24 = .ok (.invokevirtual 86, 3) := by decide +kernel
theorem dX5_letDewFall_27 : decode cX5_letDewFall 27 = .ok (.ifCond .eq 10, 3) := by decide +kernel
theorem dX5_letDewFall_30 : decode cX5_letDewFall 30 = .ok (.aload_n 0, 1) := by decide +kernel
theorem dX5_letDewFall_31 : decode cX5_letDewFall 31 = .ok (.iload_n 1, 1) := by decide +kernel
theorem dX5_letDewFall_32 : decode cX5_letDewFall 32 = .ok (.bipush 12, 2) := by decide +kernel
theorem dX5_letDewFall_34 : decode cX5_letDewFall 34 = .ok (.invokevirtual 92, 3) := by decide +kernel
theorem dX5_letDewFall_37 : decode cX5_letDewFall 37 = .ok (.iinc 1 1, 3) := by decide +kernel
theorem dX5_letDewFall_40 : decode cX5_letDewFall 40 = .ok (.goto (-26), 3) := by decide +kernel
theorem dX5_letDewFall_43 : decode cX5_letDewFall 43 = .ok (.return_, 1) := by decide +kernel
def md_X5_letDewFall : List (Nat × Nat) := [(123, 0)]
set_option maxRecDepth 100000 in
set_option maxHeartbeats 4000000 in
theorem c_X5_letDewFall {l : Launch} {D : q_D} (τ : q_T) (σ : q_V) (a0 : Nat) (hI : q_I τ σ) (tA0 : τ a0 = some (6, 1)) : q_Cv l D yX5_letDewFall cX5_letDewFall 2 none 2 42 τ σ [.ref a0] (fun σ1 => q_S md_X5_letDewFall τ σ σ1 ∧ (fx_N σ1 = f_X5_letDewFall (fx_N σ) a0)) := by
  refine q_metv rfl (Nat.le_of_ble_eq_true rfl) (fun X hG hE => ?_)
  show q_O X 0 0 τ σ 0 [(0, .ref a0)] []
  have hS0 : q_S md_X5_letDewFall τ σ σ := q_S.rf hI
  obtain ⟨Fv, hF⟩ : ∃ z, fx_eq z (f_X5_letDewFall (fx_N σ) a0) := ⟨_, fx_rf⟩
  have hF0 := hF
  unfold f_X5_letDewFall at hF
  refine q_aload_n (pc := 0) hG dX5_letDewFall_0 0 rfl ?_
  refine q_getI (pc := 1) hG fl_X5_9 dX5_letDewFall_1 hI tA0 ff_6_17 (fun v1 f1 g1 => ?_)
  replace hF := fx_I hF f1 rfl
  refine q_aload_n (pc := 4) hG dX5_letDewFall_4 0 rfl ?_
  refine q_getI (pc := 5) hG fl_X5_96 dX5_letDewFall_5 hI tA0 ff_6_16 (fun v5 f5 g5 => ?_)
  replace hF := fx_I hF f5 rfl
  refine q_icmp_eq (pc := 8) hG 12 dX5_letDewFall_8 rfl ?_ ?_
  · intro c8
    replace hF := fx_eq1 hF rfl rfl c8
    refine q_iconst (pc := 12) hG dX5_letDewFall_12 ki_0 ?_
    refine q_istore_n (pc := 13) [(1, .int 0), (0, .ref a0)] hG dX5_letDewFall_13 (by decide) rfl ?_
    have J14 : ∀ (n14 : Nat) (p14_1 : Int32) (σ14 : q_V), (q_r p14_1 0 64) → (q_S md_X5_letDewFall τ σ σ14) → (fx_eq Fv (kL_X5_letDewFall_14 a0 n14 p14_1.toInt (fx_N σ14))) → ((64 - p14_1.toInt).toNat < n14) → q_O X 0 0 τ σ14 14 [(0, .ref a0), (1, .int p14_1)] [] := by
      intro n14
      induction n14 with
      | zero => intro p14_1 σ14 r14_1 hS14 hF hm14; exact absurd hm14 (Nat.not_lt_zero _)
      | succ n14 ih14 =>
        intro p14_1 σ14 r14_1 hS14 hF hm14
        replace hF := (show fx_eq Fv (kB_X5_letDewFall_14 (kL_X5_letDewFall_14 a0 n14) a0 p14_1.toInt (fx_N σ14)) from hF)
        unfold kB_X5_letDewFall_14 at hF
        refine q_iload_n (pc := 14) hG dX5_letDewFall_14 1 rfl ?_
        refine q_aload_n (pc := 15) hG dX5_letDewFall_15 0 rfl ?_
        refine q_getI (pc := 16) hG fl_X5_83 dX5_letDewFall_16 hS14.1 tA0 ff_6_0 (fun v16 f16 g16 => ?_)
        replace hF := fx_I hF f16 rfl
        have f_1 := (hS14.2 _ _ _ _ tA0 rfl).symm.trans f16
        refine q_icmp_ge (pc := 19) hG 43 dX5_letDewFall_19 rfl ?_ ?_
        · intro c19
          replace hF := fx_lt2 hF rfl rfl c19
          exact q_vrt hG hE dX5_letDewFall_43 ⟨hS14, (fx_end hF hF0)⟩
        intro c19
        replace hF := fx_lt1 hF rfl rfl c19
        refine q_aload_n (pc := 22) hG dX5_letDewFall_22 0 rfl ?_
        refine q_iload_n (pc := 23) hG dX5_letDewFall_23 1 rfl ?_
        have r_2 := q_rlt r14_1 g16 c19 63 (by decide)
        refine q_pV (pc := 24) [.int p14_1] [] hG (c_X7_isWet τ σ14 a0 p14_1 hS14.1 tA0 r_2) my_X7_isWet mv_X7_isWet w475 dX5_letDewFall_24 tA0 (by decide) rfl rfl (Nat.le_of_ble_eq_true rfl) (by decide) (fun v24 p24 => ?_)
        replace hF := fx_E hF p24.2
        have J37 : ∀ (σ37 : q_V), (q_S md_X5_letDewFall τ σ σ37) → (fx_eq Fv (kJ_X5_letDewFall_37 p14_1.toInt (kL_X5_letDewFall_14 a0 n14) (fx_N σ37))) → q_O X 0 0 τ σ37 37 [(0, .ref a0), (1, .int p14_1)] [] := by
          intro σ37 hS37 hF
          unfold kJ_X5_letDewFall_37 at hF
          obtain ⟨v37, e37⟩ : ∃ z : Int32, z = p14_1 + Int32.ofInt 1 := ⟨_, rfl⟩
          have h37 := q_incN (lo := 1) (hi := 64) r_2 (by decide) (by decide) e37
          replace hF := fx_add hF rfl rfl h37.1
          refine q_iinc (pc := 37) [(1, .int v37), (0, .ref a0)] hG dX5_letDewFall_37 1 rfl e37 (by decide) rfl ?_
          refine q_goto (pc := 40) 14 hG dX5_letDewFall_40 rfl ?_
          refine q_lv [1, 0] rfl ?_
          exact ih14 v37 σ37 (q_r.mono h37.2 (by decide)) hS37 hF (q_measU hm14 (by have o0 := c19; have o1 := h37.1; have o2 := r_2; have o3 := g16; have o4 := h37.2; unfold q_r at o2 o3 o4; omega) (h37.2).2)
        refine q_if_eq (pc := 27) hG 37 dX5_letDewFall_27 rfl ?_ ?_
        · intro c27
          replace hF := fx_eq1 hF rfl rfl c27
          refine q_lv [0, 1] rfl ?_
          exact J37 σ14 hS14 hF
        intro c27
        replace hF := fx_eq2 hF rfl rfl c27
        refine q_aload_n (pc := 30) hG dX5_letDewFall_30 0 rfl ?_
        refine q_iload_n (pc := 31) hG dX5_letDewFall_31 1 rfl ?_
        refine q_bipush (pc := 32) hG dX5_letDewFall_32 kb_12 ?_
        refine q_cVv (pc := 34) [.int p14_1, .int 12] [] hG (c_X7_spoil τ σ14 a0 p14_1 12 hS14.1 tA0 r_2) my_X7_spoil mv_X7_spoil w477 dX5_letDewFall_34 tA0 (by decide) rfl rfl (Nat.le_of_ble_eq_true rfl) (by decide) (fun s34 p34 => ?_)
        have w34 := hS14.trans p34.1 rfl
        have fq34 := p34.2
        rewrite [tl_12] at fq34
        replace hF := fx_S hF fq34
        refine q_lv [0, 1] rfl ?_
        exact J37 s34 w34 hF
    refine q_lv [1, 0] rfl ?_
    exact J14 ((64 - (0 : Int32).toInt).toNat + 1) 0 σ (q_r.mono rl_0 (by decide)) hS0 (by rw [tl_0]; exact hF) (Nat.lt_succ_self _)
  intro c8
  replace hF := fx_eq2 hF rfl rfl c8
  exact q_vrt hG hE dX5_letDewFall_11 ⟨hS0, (fx_end hF hF0)⟩
theorem dX5_pass_0 : decode cX5_pass 0 = .ok (.iconst 0, 1) := by decide +kernel
theorem dX5_pass_1 : decode cX5_pass 1 = .ok (.istore_n 3, 1) := by decide +kernel
theorem dX5_pass_2 : decode cX5_pass 2 = .ok (.iconst 0, 1) := by decide +kernel
theorem dX5_pass_3 : decode cX5_pass 3 = .ok (.istore 4, 2) := by decide +kernel
theorem dX5_pass_5 : decode cX5_pass 5 = .ok (.iload 4, 2) := by decide +kernel
theorem dX5_pass_7 : decode cX5_pass 7 = .ok (.iload_n 2, 1) := by decide +kernel
theorem dX5_pass_8 : decode cX5_pass 8 = .ok (.if_icmp .ge 50, 3) := by decide +kernel
theorem dX5_pass_11 : decode cX5_pass 11 = .ok (.aload_n 0, 1) := by decide +kernel
theorem dX5_pass_12 : decode cX5_pass 12 = .ok (.getfield 9, 3) := by decide +kernel
theorem dX5_pass_15 : decode cX5_pass 15 = .ok (.sipush 9999, 3) := by decide +kernel
theorem dX5_pass_18 : decode cX5_pass 18 = .ok (.if_icmp .ge 40, 3) := by decide +kernel
theorem dX5_pass_21 : decode cX5_pass 21 = .ok (.aload_n 0, 1) := by decide +kernel
theorem dX5_pass_22 : decode cX5_pass 22 = .ok (.aload_n 1, 1) := by decide +kernel
theorem dX5_pass_23 : decode cX5_pass 23 = .ok (.invokestatic 15, 3) := by decide +kernel
theorem dX5_pass_26 : decode cX5_pass 26 = .ok (.iload_n 3, 1) := by decide +kernel
theorem dX5_pass_27 : decode cX5_pass 27 = .ok (.aload_n 0, 1) := by decide +kernel
theorem dX5_pass_28 : decode cX5_pass 28 = .ok (.aload_n 1, 1) := by decide +kernel
theorem dX5_pass_29 : decode cX5_pass 29 = .ok (.invokestatic 21, 3) := by decide +kernel
theorem dX5_pass_32 : decode cX5_pass 32 = .ok (.iadd, 1) := by decide +kernel
theorem dX5_pass_33 : decode cX5_pass 33 = .ok (.istore_n 3, 1) := by decide +kernel
theorem dX5_pass_34 : decode cX5_pass 34 = .ok (.aload_n 0, 1) := by decide +kernel
theorem dX5_pass_35 : decode cX5_pass 35 = .ok (.invokestatic 25, 3) := by decide +kernel
theorem dX5_pass_38 : decode cX5_pass 38 = .ok (.aload_n 0, 1) := by decide +kernel
theorem dX5_pass_39 : decode cX5_pass 39 = .ok (.invokestatic 29, 3) := by decide +kernel
theorem dX5_pass_42 : decode cX5_pass 42 = .ok (.aload_n 0, 1) := by decide +kernel
theorem dX5_pass_43 : decode cX5_pass 43 = .ok (.dup, 1) := by decide +kernel
theorem dX5_pass_44 : decode cX5_pass 44 = .ok (.getfield 9, 3) := by decide +kernel
theorem dX5_pass_47 : decode cX5_pass 47 = .ok (.iconst 1, 1) := by decide +kernel
theorem dX5_pass_48 : decode cX5_pass 48 = .ok (.iadd, 1) := by decide +kernel
theorem dX5_pass_49 : decode cX5_pass 49 = .ok (.putfield 9, 3) := by decide +kernel
theorem dX5_pass_52 : decode cX5_pass 52 = .ok (.iinc 4 1, 3) := by decide +kernel
theorem dX5_pass_55 : decode cX5_pass 55 = .ok (.goto (-50), 3) := by decide +kernel
theorem dX5_pass_58 : decode cX5_pass 58 = .ok (.iload_n 3, 1) := by decide +kernel
theorem dX5_pass_59 : decode cX5_pass 59 = .ok (.ireturn, 1) := by decide +kernel
def md_X5_pass : List (Nat × Nat) := [(3, 9), (3, 10), (3, 11), (3, 12), (3, 13), (3, 14), (3, 15), (6, 17), (117, 0), (120, 0), (121, 0), (122, 0), (123, 0), (124, 0), (125, 0), (210, 0)]
set_option maxRecDepth 100000 in
set_option maxHeartbeats 4000000 in
theorem c_X5_pass {l : Launch} {D : q_D} (τ : q_T) (σ : q_V) (a0 : Nat) (a1 : Nat) (x2 : Int32) (hI : q_I τ σ) (tA0 : τ a0 = some (6, 1)) (tA1 : τ a1 = some (3, 1)) (rA2 : q_r x2 1 600) : q_Ci l D yX5_pass cX5_pass 5 (some .int) 6 143 τ σ [.ref a0, .ref a1, .int x2] (fun r σ1 => q_S md_X5_pass τ σ σ1 ∧ (q_r r (-2147483648) 2147483647) ∧ ((r.toInt, fx_N σ1) = f_X5_pass (fx_N σ) a0 a1 x2.toInt)) := by
  refine q_meti rfl (Nat.le_of_ble_eq_true rfl) (fun X hG hE => ?_)
  show q_O X 0 0 τ σ 0 [(0, .ref a0), (1, .ref a1), (2, .int x2)] []
  have hS0 : q_S md_X5_pass τ σ σ := q_S.rf hI
  obtain ⟨Fv, hF⟩ : ∃ z, fx_eq z (f_X5_pass (fx_N σ) a0 a1 x2.toInt) := ⟨_, fx_rf⟩
  have hF0 := hF
  unfold f_X5_pass at hF
  refine q_iconst (pc := 0) hG dX5_pass_0 ki_0 ?_
  refine q_istore_n (pc := 1) [(3, .int 0), (0, .ref a0), (1, .ref a1), (2, .int x2)] hG dX5_pass_1 (by decide) rfl ?_
  refine q_iconst (pc := 2) hG dX5_pass_2 ki_0 ?_
  refine q_istore (pc := 3) [(4, .int 0), (3, .int 0), (0, .ref a0), (1, .ref a1), (2, .int x2)] hG dX5_pass_3 (by decide) rfl ?_
  have J5 : ∀ (n5 : Nat) (p5_3 : Int32) (p5_4 : Int32) (σ5 : q_V), (q_r p5_4 0 600) → (q_S md_X5_pass τ σ σ5) → (fx_eq Fv (kL_X5_pass_5 x2.toInt a0 a1 n5 p5_3.toInt p5_4.toInt (fx_N σ5))) → ((600 - p5_4.toInt).toNat < n5) → q_O X 0 0 τ σ5 5 [(0, .ref a0), (1, .ref a1), (2, .int x2), (3, .int p5_3), (4, .int p5_4)] [] := by
    intro n5
    induction n5 with
    | zero => intro p5_3 p5_4 σ5 r5_4 hS5 hF hm5; exact absurd hm5 (Nat.not_lt_zero _)
    | succ n5 ih5 =>
      intro p5_3 p5_4 σ5 r5_4 hS5 hF hm5
      replace hF := (show fx_eq Fv (kB_X5_pass_5 (kL_X5_pass_5 x2.toInt a0 a1 n5) x2.toInt a0 a1 p5_3.toInt p5_4.toInt (fx_N σ5)) from hF)
      unfold kB_X5_pass_5 at hF
      refine q_iload (pc := 5) hG dX5_pass_5 4 rfl ?_
      refine q_iload_n (pc := 7) hG dX5_pass_7 2 rfl ?_
      refine q_icmp_ge (pc := 8) hG 58 dX5_pass_8 rfl ?_ ?_
      · intro c8
        replace hF := fx_lt2 hF rfl rfl c8
        refine q_iload_n (pc := 58) hG dX5_pass_58 3 rfl ?_
        exact q_irt hG hE dX5_pass_59 ⟨hS5, (q_r_any p5_3), (fx_end hF hF0)⟩
      intro c8
      replace hF := fx_lt1 hF rfl rfl c8
      refine q_aload_n (pc := 11) hG dX5_pass_11 0 rfl ?_
      refine q_getI (pc := 12) hG fl_X5_9 dX5_pass_12 hS5.1 tA0 ff_6_17 (fun v12 f12 g12 => ?_)
      replace hF := fx_I hF f12 rfl
      refine q_sipush (pc := 15) hG dX5_pass_15 ks_9999 ?_
      refine q_icmp_ge (pc := 18) hG 58 dX5_pass_18 rfl ?_ ?_
      · intro c18
        replace hF := fx_lt2 hF rfl tl_9999 c18
        refine q_iload_n (pc := 58) hG dX5_pass_58 3 rfl ?_
        exact q_irt hG hE dX5_pass_59 ⟨hS5, (q_r_any p5_3), (fx_end hF hF0)⟩
      intro c18
      replace hF := fx_lt1 hF rfl tl_9999 c18
      refine q_aload_n (pc := 21) hG dX5_pass_21 0 rfl ?_
      refine q_aload_n (pc := 22) hG dX5_pass_22 1 rfl ?_
      refine q_cSv (pc := 23) [.ref a0, .ref a1] [] hG (c_X5_beginDots τ σ5 a0 a1 hS5.1 tA0 tA1) my_X5_beginDots w404 w403 dX5_pass_23 rfl rfl (Nat.le_of_ble_eq_true rfl) (by decide) (fun s23 p23 => ?_)
      have w23 := hS5.trans p23.1 rfl
      replace hF := fx_S hF p23.2
      refine q_iload_n (pc := 26) hG dX5_pass_26 3 rfl ?_
      refine q_aload_n (pc := 27) hG dX5_pass_27 0 rfl ?_
      refine q_aload_n (pc := 28) hG dX5_pass_28 1 rfl ?_
      refine q_cSi (pc := 29) [.ref a0, .ref a1] [.int p5_3] hG (c_X5_paintDots τ s23 a0 a1 w23.1 tA0 tA1) my_X5_paintDots w465 w464 dX5_pass_29 rfl rfl (Nat.le_of_ble_eq_true rfl) (by decide) (fun v29 s29 p29 => ?_)
      have w29 := w23.trans p29.1 rfl
      replace hF := fx_C hF p29.2.2
      refine q_iadd (pc := 32) hG dX5_pass_32 (fun v32 e32 => ?_)
      replace hF := fx_B_add hF rfl rfl e32
      refine q_istore_n (pc := 33) [(3, .int v32), (0, .ref a0), (1, .ref a1), (2, .int x2), (4, .int p5_4)] hG dX5_pass_33 (by decide) rfl ?_
      refine q_aload_n (pc := 34) hG dX5_pass_34 1 rfl ?_
      refine q_cSv (pc := 35) [.ref a0] [] hG (c_X5_drive τ s29 a0 w29.1 tA0) my_X5_drive w473 w472 dX5_pass_35 rfl rfl (Nat.le_of_ble_eq_true rfl) (by decide) (fun s35 p35 => ?_)
      have w35 := w29.trans p35.1 rfl
      replace hF := fx_S hF p35.2
      refine q_aload_n (pc := 38) hG dX5_pass_38 1 rfl ?_
      refine q_cSv (pc := 39) [.ref a0] [] hG (c_X5_letDewFall τ s35 a0 w35.1 tA0) my_X5_letDewFall w482 w481 dX5_pass_39 rfl rfl (Nat.le_of_ble_eq_true rfl) (by decide) (fun s39 p39 => ?_)
      have w39 := w35.trans p39.1 rfl
      replace hF := fx_S hF p39.2
      refine q_aload_n (pc := 42) hG dX5_pass_42 1 rfl ?_
      refine q_dup (pc := 43) hG dX5_pass_43 rfl ?_
      refine q_getV (pc := 44) (v := .int v12) hG fl_X5_9 dX5_pass_44 tA0 (p39.1.same tA0 rfl (p35.1.same tA0 rfl (p29.1.same tA0 rfl (p23.1.same tA0 rfl f12)))) ?_
      refine q_iconst (pc := 47) hG dX5_pass_47 ki_1 ?_
      refine q_iadd (pc := 48) hG dX5_pass_48 (fun v48 e48 => ?_)
      have r_1 := q_rlt g12 rl_9999 c18 9998 (by decide)
      replace hF := fx_add hF rfl tl_1 (q_addN (lo := (-2147483647)) (hi := 9999) e48 r_1 rl_1 (by decide)).1
      have r_2 := (q_addN (lo := (-2147483647)) (hi := 9999) e48 r_1 rl_1 (by decide)).2
      refine q_putI (pc := 49) hG fl_X5_9 dX5_pass_49 w39 tA0 ff_6_17 r_2 (by decide) rfl (fun s49 u49 w49 => ?_)
      replace hF := fx_P hF u49 rfl rfl
      have m49 : s49 a0 17 = .int v48 := by rw [u49]; exact q_up_same
      obtain ⟨v52, e52⟩ : ∃ z : Int32, z = p5_4 + Int32.ofInt 1 := ⟨_, rfl⟩
      have r_3 := q_rlt r5_4 rA2 c8 599 (by decide)
      have h52 := q_incN (lo := 1) (hi := 600) r_3 (by decide) (by decide) e52
      replace hF := fx_add hF rfl rfl h52.1
      refine q_iinc (pc := 52) [(4, .int v52), (3, .int v32), (0, .ref a0), (1, .ref a1), (2, .int x2)] hG dX5_pass_52 4 rfl e52 (by decide) rfl ?_
      refine q_goto (pc := 55) 5 hG dX5_pass_55 rfl ?_
      refine q_lv [2, 3, 4, 1, 0] rfl ?_
      exact ih5 v32 v52 s49 (q_r.mono h52.2 (by decide)) w49 hF (q_measU hm5 (by have o0 := c8; have o1 := h52.1; have o2 := r_3; have o3 := h52.2; have o4 := rA2; unfold q_r at o2 o3 o4; omega) (h52.2).2)
  refine q_lv [2, 3, 4, 1, 0] rfl ?_
  exact J5 ((600 - (0 : Int32).toInt).toNat + 1) 0 0 σ (q_r.mono rl_0 (by decide)) hS0 (by rw [tl_0]; exact hF) (Nat.lt_succ_self _)
