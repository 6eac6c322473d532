/-! laid by wip/p2/build.py -/
theorem dX6_paintOne_0 : decode cX6_paintOne 0 = .ok (.aload_n 0, 1) := by decide +kernel
theorem dX6_paintOne_1 : decode cX6_paintOne 1 = .ok (.getfield 18, 3) := by decide +kernel
theorem dX6_paintOne_4 : decode cX6_paintOne 4 = .ok (.iload_n 3, 1) := by decide +kernel
theorem dX6_paintOne_5 : decode cX6_paintOne 5 = .ok (.iaload, 1) := by decide +kernel
theorem dX6_paintOne_6 : decode cX6_paintOne 6 = .ok (.istore 5, 2) := by decide +kernel
theorem dX6_paintOne_8 : decode cX6_paintOne 8 = .ok (.iload 5, 2) := by decide +kernel
theorem dX6_paintOne_10 : decode cX6_paintOne 10 = .ok (.aload_n 2, 1) := by decide +kernel
theorem dX6_paintOne_11 : decode cX6_paintOne 11 = .ok (.bipush 112, 2) := by decide +kernel
theorem dX6_paintOne_13 : decode cX6_paintOne 13 = .ok (.aload_n 1, 1) := by decide +kernel
theorem dX6_paintOne_14 : decode cX6_paintOne 14 = .ok (.iload 4, 2) := by decide +kernel
theorem dX6_paintOne_16 : decode cX6_paintOne 16 = .ok (.iload 5, 2) := by decide +kernel
theorem dX6_paintOne_18 : decode cX6_paintOne 18 = .ok (.iload_n 3, 1) := by decide +kernel
theorem dX6_paintOne_19 : decode cX6_paintOne 19 = .ok (.iconst 0, 1) := by decide +kernel
theorem dX6_paintOne_20 : decode cX6_paintOne 20 = .ok (.invokevirtual 43, 3) := by decide +kernel
theorem dX6_paintOne_23 : decode cX6_paintOne 23 = .ok (.iadd, 1) := by decide +kernel
theorem dX6_paintOne_24 : decode cX6_paintOne 24 = .ok (.istore 6, 2) := by decide +kernel
theorem dX6_paintOne_26 : decode cX6_paintOne 26 = .ok (.aload_n 0, 1) := by decide +kernel
theorem dX6_paintOne_27 : decode cX6_paintOne 27 = .ok (.getfield 18, 3) := by decide +kernel
theorem dX6_paintOne_30 : decode cX6_paintOne 30 = .ok (.iload_n 3, 1) := by decide +kernel
theorem dX6_paintOne_31 : decode cX6_paintOne 31 = .ok (.iload 6, 2) := by decide +kernel
theorem dX6_paintOne_33 : decode cX6_paintOne 33 = .ok (.iastore, 1) := by decide +kernel
theorem dX6_paintOne_34 : decode cX6_paintOne 34 = .ok (.aload_n 0, 1) := by decide +kernel
theorem dX6_paintOne_35 : decode cX6_paintOne 35 = .ok (.getfield 9, 3) := by decide +kernel
theorem dX6_paintOne_38 : decode cX6_paintOne 38 = .ok (.iload 4, 2) := by decide +kernel
theorem dX6_paintOne_40 : decode cX6_paintOne 40 = .ok (.iload 5, 2) := by decide +kernel
theorem dX6_paintOne_42 : decode cX6_paintOne 42 = .ok (.iastore, 1) := by decide +kernel
theorem dX6_paintOne_43 : decode cX6_paintOne 43 = .ok (.aload_n 0, 1) := by decide +kernel
theorem dX6_paintOne_44 : decode cX6_paintOne 44 = .ok (.getfield 15, 3) := by decide +kernel
theorem dX6_paintOne_47 : decode cX6_paintOne 47 = .ok (.iload 4, 2) := by decide +kernel
theorem dX6_paintOne_49 : decode cX6_paintOne 49 = .ok (.iload 6, 2) := by decide +kernel
theorem dX6_paintOne_51 : decode cX6_paintOne 51 = .ok (.aload_n 2, 1) := by decide +kernel
theorem dX6_paintOne_52 : decode cX6_paintOne 52 = .ok (.bipush 100, 2) := by decide +kernel
theorem dX6_paintOne_54 : decode cX6_paintOne 54 = .ok (.aload_n 1, 1) := by decide +kernel
theorem dX6_paintOne_55 : decode cX6_paintOne 55 = .ok (.iload 4, 2) := by decide +kernel
theorem dX6_paintOne_57 : decode cX6_paintOne 57 = .ok (.iload 6, 2) := by decide +kernel
theorem dX6_paintOne_59 : decode cX6_paintOne 59 = .ok (.iload_n 3, 1) := by decide +kernel
theorem dX6_paintOne_60 : decode cX6_paintOne 60 = .ok (.iconst 0, 1) := by decide +kernel
theorem dX6_paintOne_61 : decode cX6_paintOne 61 = .ok (.invokevirtual 43, 3) := by decide +kernel
theorem dX6_paintOne_64 : decode cX6_paintOne 64 = .ok (.iadd, 1) := by decide +kernel
theorem dX6_paintOne_65 : decode cX6_paintOne 65 = .ok (.iastore, 1) := by decide +kernel
theorem dX6_paintOne_66 : decode cX6_paintOne 66 = .ok (.aload_n 0, 1) := by decide +kernel
theorem dX6_paintOne_67 : decode cX6_paintOne 67 = .ok (.aload_n 0, 1) := by decide +kernel
theorem dX6_paintOne_68 : decode cX6_paintOne 68 = .ok (.getfield 21, 3) := by decide +kernel
theorem dX6_paintOne_71 : decode cX6_paintOne 71 = .ok (.aload_n 0, 1) := by decide +kernel
theorem dX6_paintOne_72 : decode cX6_paintOne 72 = .ok (.getfield 15, 3) := by decide +kernel
theorem dX6_paintOne_75 : decode cX6_paintOne 75 = .ok (.iload 4, 2) := by decide +kernel
theorem dX6_paintOne_77 : decode cX6_paintOne 77 = .ok (.iaload, 1) := by decide +kernel
theorem dX6_paintOne_78 : decode cX6_paintOne 78 = .ok (.invokestatic 49, 3) := by decide +kernel
theorem dX6_paintOne_81 : decode cX6_paintOne 81 = .ok (.putfield 21, 3) := by decide +kernel
theorem dX6_paintOne_84 : decode cX6_paintOne 84 = .ok (.iload 6, 2) := by decide +kernel
theorem dX6_paintOne_86 : decode cX6_paintOne 86 = .ok (.aload_n 0, 1) := by decide +kernel
theorem dX6_paintOne_87 : decode cX6_paintOne 87 = .ok (.getfield 25, 3) := by decide +kernel
theorem dX6_paintOne_90 : decode cX6_paintOne 90 = .ok (.if_icmp .gt 17, 3) := by decide +kernel
theorem dX6_paintOne_93 : decode cX6_paintOne 93 = .ok (.iload 6, 2) := by decide +kernel
theorem dX6_paintOne_95 : decode cX6_paintOne 95 = .ok (.aload_n 0, 1) := by decide +kernel
theorem dX6_paintOne_96 : decode cX6_paintOne 96 = .ok (.getfield 25, 3) := by decide +kernel
theorem dX6_paintOne_99 : decode cX6_paintOne 99 = .ok (.if_icmp .ne 20, 3) := by decide +kernel
theorem dX6_paintOne_102 : decode cX6_paintOne 102 = .ok (.iload_n 3, 1) := by decide +kernel
theorem dX6_paintOne_103 : decode cX6_paintOne 103 = .ok (.iconst 1, 1) := by decide +kernel
theorem dX6_paintOne_104 : decode cX6_paintOne 104 = .ok (.if_icmp .ne 15, 3) := by decide +kernel
theorem dX6_paintOne_107 : decode cX6_paintOne 107 = .ok (.aload_n 0, 1) := by decide +kernel
theorem dX6_paintOne_108 : decode cX6_paintOne 108 = .ok (.iload 6, 2) := by decide +kernel
theorem dX6_paintOne_110 : decode cX6_paintOne 110 = .ok (.putfield 25, 3) := by decide +kernel
theorem dX6_paintOne_113 : decode cX6_paintOne 113 = .ok (.aload_n 0, 1) := by decide +kernel
theorem dX6_paintOne_114 : decode cX6_paintOne 114 = .ok (.iload 4, 2) := by decide +kernel
theorem dX6_paintOne_116 : decode cX6_paintOne 116 = .ok (.putfield 28, 3) := by decide +kernel
theorem dX6_paintOne_119 : decode cX6_paintOne 119 = .ok (.return_, 1) := by decide +kernel
def md_X6_paintOne : List (Nat × Nat) := [(3, 9), (3, 10), (3, 11), (3, 12), (3, 13), (3, 14), (3, 15), (5, 3), (5, 4), (5, 5), (117, 0), (129, 0), (130, 0), (131, 0)]
set_option maxRecDepth 100000 in
set_option maxHeartbeats 4000000 in
theorem c_X6_paintOne {l : Launch} {D : q_D} (τ : q_T) (σ : q_V) (a0 : Nat) (a1 : Nat) (a2 : Nat) (x3 : Int32) (x4 : Int32) (hI : q_I τ σ) (tA0 : τ a0 = some (5, 1)) (tA1 : τ a1 = some (6, 1)) (tA2 : τ a2 = some (3, 1)) (rA3 : q_r x3 0 1) (rA4 : q_r x4 0 63) : q_Cv l D yX6_paintOne cX6_paintOne 7 none 5 119 τ σ [.ref a0, .ref a1, .ref a2, .int x3, .int x4] (fun σ1 => q_S md_X6_paintOne τ σ σ1) := by
  refine q_metv rfl (Nat.le_of_ble_eq_true rfl) (fun X hG hE => ?_)
  show q_O X 0 0 τ σ 0 [(0, .ref a0), (1, .ref a1), (2, .ref a2), (3, .int x3), (4, .int x4)] []
  have hS0 : q_S md_X6_paintOne τ σ σ := q_S.rf hI
  refine q_aload_n (pc := 0) hG dX6_paintOne_0 0 rfl ?_
  refine q_getR (pc := 1) (k2 := 131) (n2 := 2) hG fl_X6_18 dX6_paintOne_1 hI tA0 ff_5_2 (fun b1 f1 T1 => ?_)
  refine q_iload_n (pc := 4) hG dX6_paintOne_4 3 rfl ?_
  refine q_iald (pc := 5) hG dX6_paintOne_5 hI ai_131 T1 (q_ix rA3 (by decide)) (fun v5 f5 g5 => ?_)
  refine q_istore (pc := 6) [(5, .int v5), (0, .ref a0), (1, .ref a1), (2, .ref a2), (3, .int x3), (4, .int x4)] hG dX6_paintOne_6 (by decide) rfl ?_
  refine q_iload (pc := 8) hG dX6_paintOne_8 0 rfl ?_
  refine q_aload_n (pc := 10) hG dX6_paintOne_10 3 rfl ?_
  refine q_bipush (pc := 11) hG dX6_paintOne_11 kb_112 ?_
  refine q_aload_n (pc := 13) hG dX6_paintOne_13 2 rfl ?_
  refine q_iload (pc := 14) hG dX6_paintOne_14 5 rfl ?_
  refine q_iload (pc := 16) hG dX6_paintOne_16 0 rfl ?_
  refine q_iload_n (pc := 18) hG dX6_paintOne_18 4 rfl ?_
  refine q_iconst (pc := 19) hG dX6_paintOne_19 ki_0 ?_
  refine q_cVi (pc := 20) [.int 112, .ref a1, .int x4, .int v5, .int x3, .int 0] [.int v5] hG (c_X3_ask τ σ a2 112 a1 x4 v5 x3 0 hI tA2 tA1) my_X3_ask mv_X3_ask w612 dX6_paintOne_20 tA2 (by decide) rfl rfl (Nat.le_of_ble_eq_true rfl) (by decide) (fun v20 s20 p20 => ?_)
  have w20 := hS0.trans p20.1 rfl
  refine q_iadd (pc := 23) hG dX6_paintOne_23 (fun v23 e23 => ?_)
  refine q_istore (pc := 24) [(6, .int v23), (5, .int v5), (0, .ref a0), (1, .ref a1), (2, .ref a2), (3, .int x3), (4, .int x4)] hG dX6_paintOne_24 (by decide) rfl ?_
  refine q_aload_n (pc := 26) hG dX6_paintOne_26 2 rfl ?_
  refine q_getV (pc := 27) (v := .ref b1) hG fl_X6_18 dX6_paintOne_27 tA0 (w20.same tA0 rfl f1) ?_
  refine q_iload_n (pc := 30) hG dX6_paintOne_30 5 rfl ?_
  refine q_iload (pc := 31) hG dX6_paintOne_31 0 rfl ?_
  refine q_iast (pc := 33) hG dX6_paintOne_33 w20 ai_131 T1 (q_ix rA3 (by decide)) (q_r_any v23) (by decide) rfl (fun s33 u33 w33 => ?_)
  have m33 : s33 b1 x3.toInt.toNat = .int v23 := by rw [u33]; exact q_up_same
  refine q_aload_n (pc := 34) hG dX6_paintOne_34 2 rfl ?_
  refine q_getR (pc := 35) (k2 := 129) (n2 := 64) hG fl_X6_9 dX6_paintOne_35 w33.1 tA0 ff_5_0 (fun b35 f35 T35 => ?_)
  have f_1 := (w33.2 _ _ _ _ tA0 rfl).symm.trans f35
  refine q_iload (pc := 38) hG dX6_paintOne_38 6 rfl ?_
  refine q_iload (pc := 40) hG dX6_paintOne_40 1 rfl ?_
  refine q_iast (pc := 42) hG dX6_paintOne_42 w33 ai_129 T35 (q_ix rA4 (by decide)) g5 (by decide) rfl (fun s42 u42 w42 => ?_)
  have m42 : s42 b35 x4.toInt.toNat = .int v5 := by rw [u42]; exact q_up_same
  refine q_aload_n (pc := 43) hG dX6_paintOne_43 2 rfl ?_
  refine q_getR (pc := 44) (k2 := 130) (n2 := 64) hG fl_X6_15 dX6_paintOne_44 w42.1 tA0 ff_5_1 (fun b44 f44 T44 => ?_)
  have f_2 := (w42.2 _ _ _ _ tA0 rfl).symm.trans f44
  refine q_iload (pc := 47) hG dX6_paintOne_47 6 rfl ?_
  refine q_iload (pc := 49) hG dX6_paintOne_49 0 rfl ?_
  refine q_aload_n (pc := 51) hG dX6_paintOne_51 4 rfl ?_
  refine q_bipush (pc := 52) hG dX6_paintOne_52 kb_100 ?_
  refine q_aload_n (pc := 54) hG dX6_paintOne_54 3 rfl ?_
  refine q_iload (pc := 55) hG dX6_paintOne_55 6 rfl ?_
  refine q_iload (pc := 57) hG dX6_paintOne_57 0 rfl ?_
  refine q_iload_n (pc := 59) hG dX6_paintOne_59 5 rfl ?_
  refine q_iconst (pc := 60) hG dX6_paintOne_60 ki_0 ?_
  refine q_cVi (pc := 61) [.int 100, .ref a1, .int x4, .int v23, .int x3, .int 0] [.int v23, .int x4, .ref b44] hG (c_X3_ask τ s42 a2 100 a1 x4 v23 x3 0 w42.1 tA2 tA1) my_X3_ask mv_X3_ask w612 dX6_paintOne_61 tA2 (by decide) rfl rfl (Nat.le_of_ble_eq_true rfl) (by decide) (fun v61 s61 p61 => ?_)
  have w61 := w42.trans p61.1 rfl
  refine q_iadd (pc := 64) hG dX6_paintOne_64 (fun v64 e64 => ?_)
  refine q_iast (pc := 65) hG dX6_paintOne_65 w61 ai_130 T44 (q_ix rA4 (by decide)) (q_r_any v64) (by decide) rfl (fun s65 u65 w65 => ?_)
  have m65 : s65 b44 x4.toInt.toNat = .int v64 := by rw [u65]; exact q_up_same
  refine q_aload_n (pc := 66) hG dX6_paintOne_66 2 rfl ?_
  refine q_aload_n (pc := 67) hG dX6_paintOne_67 2 rfl ?_
  refine q_getI (pc := 68) hG fl_X6_21 dX6_paintOne_68 w65.1 tA0 ff_5_3 (fun v68 f68 g68 => ?_)
  refine q_aload_n (pc := 71) hG dX6_paintOne_71 2 rfl ?_
  refine q_getV (pc := 72) (v := .ref b44) hG fl_X6_15 dX6_paintOne_72 tA0 (w65.same tA0 rfl f_2) ?_
  refine q_iload (pc := 75) hG dX6_paintOne_75 6 rfl ?_
  refine q_ialdV (pc := 77) (v := .int v64) hG dX6_paintOne_77 T44 (by decide) (by decide) (q_ix rA4 (by decide)) m65 ?_
  refine q_pS (pc := 78) [.int v68, .int v64] [.ref a0] hG (c_J9_max_7cf53 τ s65 v68 v64 w65.1) my_J9_max_7cf53 w262 w613 dX6_paintOne_78 rfl rfl (Nat.le_of_ble_eq_true rfl) (by decide) (fun v78 p78 => ?_)
  have r_3 := q_maxN (lo := (-2147483648)) (hi := 2147483647) p78.2.2 g68 (q_r_any v64) (by decide)
  refine q_putI (pc := 81) hG fl_X6_21 dX6_paintOne_81 w65 tA0 ff_5_3 r_3 (by decide) rfl (fun s81 u81 w81 => ?_)
  have m81 : s81 a0 3 = .int v78 := by rw [u81]; exact q_up_same
  refine q_iload (pc := 84) hG dX6_paintOne_84 0 rfl ?_
  refine q_aload_n (pc := 86) hG dX6_paintOne_86 2 rfl ?_
  refine q_getI (pc := 87) hG fl_X6_25 dX6_paintOne_87 w81.1 tA0 ff_5_4 (fun v87 f87 g87 => ?_)
  have J107 : q_O X 0 0 τ s81 107 [(0, .ref a0), (4, .int x4), (6, .int v23)] [] := by
    refine q_aload_n (pc := 107) hG dX6_paintOne_107 0 rfl ?_
    refine q_iload (pc := 108) hG dX6_paintOne_108 2 rfl ?_
    refine q_putI (pc := 110) hG fl_X6_25 dX6_paintOne_110 w81 tA0 ff_5_4 (q_r_any v23) (by decide) rfl (fun s110 u110 w110 => ?_)
    have m110 : s110 a0 4 = .int v23 := by rw [u110]; exact q_up_same
    refine q_aload_n (pc := 113) hG dX6_paintOne_113 0 rfl ?_
    refine q_iload (pc := 114) hG dX6_paintOne_114 1 rfl ?_
    refine q_putI (pc := 116) hG fl_X6_28 dX6_paintOne_116 w110 tA0 ff_5_5 rA4 (by decide) rfl (fun s116 u116 w116 => ?_)
    have m116 : s116 a0 5 = .int x4 := by rw [u116]; exact q_up_same
    exact q_vrt hG hE dX6_paintOne_119 w116
  refine q_icmp_gt (pc := 90) hG 107 dX6_paintOne_90 rfl ?_ ?_
  · intro c90
    refine q_lv [2, 6, 0] rfl ?_
    exact J107 
  intro c90
  refine q_iload (pc := 93) hG dX6_paintOne_93 0 rfl ?_
  refine q_aload_n (pc := 95) hG dX6_paintOne_95 2 rfl ?_
  refine q_getV (pc := 96) (v := .int v87) hG fl_X6_25 dX6_paintOne_96 tA0 f87 ?_
  refine q_icmp_ne (pc := 99) hG 119 dX6_paintOne_99 rfl ?_ ?_
  · intro c99
    exact q_vrt hG hE dX6_paintOne_119 w81
  intro c99
  refine q_iload_n (pc := 102) hG dX6_paintOne_102 5 rfl ?_
  refine q_iconst (pc := 103) hG dX6_paintOne_103 ki_1 ?_
  refine q_icmp_ne (pc := 104) hG 119 dX6_paintOne_104 rfl ?_ ?_
  · intro c104
    exact q_vrt hG hE dX6_paintOne_119 w81
  intro c104
  refine q_lv [2, 6, 0] rfl ?_
  exact J107 
theorem dX6_paint_0 : decode cX6_paint 0 = .ok (.aload_n 0, 1) := by decide +kernel
theorem dX6_paint_1 : decode cX6_paint 1 = .ok (.getfield 18, 3) := by decide +kernel
theorem dX6_paint_4 : decode cX6_paint 4 = .ok (.iconst 0, 1) := by decide +kernel
theorem dX6_paint_5 : decode cX6_paint 5 = .ok (.iload_n 3, 1) := by decide +kernel
theorem dX6_paint_6 : decode cX6_paint 6 = .ok (.iastore, 1) := by decide +kernel
theorem dX6_paint_7 : decode cX6_paint 7 = .ok (.aload_n 0, 1) := by decide +kernel
theorem dX6_paint_8 : decode cX6_paint 8 = .ok (.getfield 18, 3) := by decide +kernel
theorem dX6_paint_11 : decode cX6_paint 11 = .ok (.iconst 1, 1) := by decide +kernel
theorem dX6_paint_12 : decode cX6_paint 12 = .ok (.iload 4, 2) := by decide +kernel
theorem dX6_paint_14 : decode cX6_paint 14 = .ok (.iastore, 1) := by decide +kernel
theorem dX6_paint_15 : decode cX6_paint 15 = .ok (.aload_n 0, 1) := by decide +kernel
theorem dX6_paint_16 : decode cX6_paint 16 = .ok (.iconst 0, 1) := by decide +kernel
theorem dX6_paint_17 : decode cX6_paint 17 = .ok (.putfield 21, 3) := by decide +kernel
theorem dX6_paint_20 : decode cX6_paint 20 = .ok (.aload_n 0, 1) := by decide +kernel
theorem dX6_paint_21 : decode cX6_paint 21 = .ok (.iconst 0, 1) := by decide +kernel
theorem dX6_paint_22 : decode cX6_paint 22 = .ok (.putfield 25, 3) := by decide +kernel
theorem dX6_paint_25 : decode cX6_paint 25 = .ok (.iconst 0, 1) := by decide +kernel
theorem dX6_paint_26 : decode cX6_paint 26 = .ok (.istore 5, 2) := by decide +kernel
theorem dX6_paint_28 : decode cX6_paint 28 = .ok (.aload_n 1, 1) := by decide +kernel
theorem dX6_paint_29 : decode cX6_paint 29 = .ok (.getfield 34, 3) := by decide +kernel
theorem dX6_paint_32 : decode cX6_paint 32 = .ok (.iconst 1, 1) := by decide +kernel
theorem dX6_paint_33 : decode cX6_paint 33 = .ok (.isub, 1) := by decide +kernel
theorem dX6_paint_34 : decode cX6_paint 34 = .ok (.istore 6, 2) := by decide +kernel
theorem dX6_paint_36 : decode cX6_paint 36 = .ok (.iconst 0, 1) := by decide +kernel
theorem dX6_paint_37 : decode cX6_paint 37 = .ok (.istore 7, 2) := by decide +kernel
theorem dX6_paint_39 : decode cX6_paint 39 = .ok (.iload 7, 2) := by decide +kernel
theorem dX6_paint_41 : decode cX6_paint 41 = .ok (.aload_n 1, 1) := by decide +kernel
theorem dX6_paint_42 : decode cX6_paint 42 = .ok (.getfield 34, 3) := by decide +kernel
theorem dX6_paint_45 : decode cX6_paint 45 = .ok (.if_icmp .ge 51, 3) := by decide +kernel
theorem dX6_paint_48 : decode cX6_paint 48 = .ok (.aload_n 0, 1) := by decide +kernel
theorem dX6_paint_49 : decode cX6_paint 49 = .ok (.getfield 18, 3) := by decide +kernel
theorem dX6_paint_52 : decode cX6_paint 52 = .ok (.iconst 0, 1) := by decide +kernel
theorem dX6_paint_53 : decode cX6_paint 53 = .ok (.iaload, 1) := by decide +kernel
theorem dX6_paint_54 : decode cX6_paint 54 = .ok (.aload_n 0, 1) := by decide +kernel
theorem dX6_paint_55 : decode cX6_paint 55 = .ok (.getfield 18, 3) := by decide +kernel
theorem dX6_paint_58 : decode cX6_paint 58 = .ok (.iconst 1, 1) := by decide +kernel
theorem dX6_paint_59 : decode cX6_paint 59 = .ok (.iaload, 1) := by decide +kernel
theorem dX6_paint_60 : decode cX6_paint 60 = .ok (.if_icmp .gt 18, 3) := by decide +kernel
theorem dX6_paint_63 : decode cX6_paint 63 = .ok (.aload_n 0, 1) := by decide +kernel
theorem dX6_paint_64 : decode cX6_paint 64 = .ok (.aload_n 1, 1) := by decide +kernel
theorem dX6_paint_65 : decode cX6_paint 65 = .ok (.aload_n 2, 1) := by decide +kernel
theorem dX6_paint_66 : decode cX6_paint 66 = .ok (.iconst 0, 1) := by decide +kernel
theorem dX6_paint_67 : decode cX6_paint 67 = .ok (.iload 5, 2) := by decide +kernel
theorem dX6_paint_69 : decode cX6_paint 69 = .ok (.invokevirtual 39, 3) := by decide +kernel
theorem dX6_paint_72 : decode cX6_paint 72 = .ok (.iinc 5 1, 3) := by decide +kernel
theorem dX6_paint_75 : decode cX6_paint 75 = .ok (.goto 15, 3) := by decide +kernel
theorem dX6_paint_78 : decode cX6_paint 78 = .ok (.aload_n 0, 1) := by decide +kernel
theorem dX6_paint_79 : decode cX6_paint 79 = .ok (.aload_n 1, 1) := by decide +kernel
theorem dX6_paint_80 : decode cX6_paint 80 = .ok (.aload_n 2, 1) := by decide +kernel
theorem dX6_paint_81 : decode cX6_paint 81 = .ok (.iconst 1, 1) := by decide +kernel
theorem dX6_paint_82 : decode cX6_paint 82 = .ok (.iload 6, 2) := by decide +kernel
theorem dX6_paint_84 : decode cX6_paint 84 = .ok (.invokevirtual 39, 3) := by decide +kernel
theorem dX6_paint_87 : decode cX6_paint 87 = .ok (.iinc 6 (-1), 3) := by decide +kernel
theorem dX6_paint_90 : decode cX6_paint 90 = .ok (.iinc 7 1, 3) := by decide +kernel
theorem dX6_paint_93 : decode cX6_paint 93 = .ok (.goto (-54), 3) := by decide +kernel
theorem dX6_paint_96 : decode cX6_paint 96 = .ok (.aload_n 0, 1) := by decide +kernel
theorem dX6_paint_97 : decode cX6_paint 97 = .ok (.iload 5, 2) := by decide +kernel
theorem dX6_paint_99 : decode cX6_paint 99 = .ok (.iconst 1, 1) := by decide +kernel
theorem dX6_paint_100 : decode cX6_paint 100 = .ok (.isub, 1) := by decide +kernel
theorem dX6_paint_101 : decode cX6_paint 101 = .ok (.putfield 31, 3) := by decide +kernel
theorem dX6_paint_104 : decode cX6_paint 104 = .ok (.return_, 1) := by decide +kernel
def md_X6_paint : List (Nat × Nat) := [(3, 9), (3, 10), (3, 11), (3, 12), (3, 13), (3, 14), (3, 15), (5, 3), (5, 4), (5, 5), (5, 6), (117, 0), (129, 0), (130, 0), (131, 0)]
set_option maxRecDepth 100000 in
set_option maxHeartbeats 4000000 in
theorem c_X6_paint {l : Launch} {D : q_D} (τ : q_T) (σ : q_V) (a0 : Nat) (a1 : Nat) (a2 : Nat) (x3 : Int32) (x4 : Int32) (hI : q_I τ σ) (tA0 : τ a0 = some (5, 1)) (tA1 : τ a1 = some (6, 1)) (tA2 : τ a2 = some (3, 1)) : q_Cv l D yX6_paint cX6_paint 8 none 6 145 τ σ [.ref a0, .ref a1, .ref a2, .int x3, .int x4] (fun σ1 => q_S md_X6_paint τ σ σ1) := by
  refine q_metv rfl (Nat.le_of_ble_eq_true rfl) (fun X hG hE => ?_)
  show q_O X 0 0 τ σ 0 [(0, .ref a0), (1, .ref a1), (2, .ref a2), (3, .int x3), (4, .int x4)] []
  have hS0 : q_S md_X6_paint τ σ σ := q_S.rf hI
  refine q_aload_n (pc := 0) hG dX6_paint_0 0 rfl ?_
  refine q_getR (pc := 1) (k2 := 131) (n2 := 2) hG fl_X6_18 dX6_paint_1 hI tA0 ff_5_2 (fun b1 f1 T1 => ?_)
  refine q_iconst (pc := 4) hG dX6_paint_4 ki_0 ?_
  refine q_iload_n (pc := 5) hG dX6_paint_5 3 rfl ?_
  refine q_iast (pc := 6) hG dX6_paint_6 hS0 ai_131 T1 (q_ix rl_0 (by decide)) (q_r_any x3) (by decide) rfl (fun s6 u6 w6 => ?_)
  have m6 : s6 b1 (0 : Int32).toInt.toNat = .int x3 := by rw [u6]; exact q_up_same
  refine q_aload_n (pc := 7) hG dX6_paint_7 0 rfl ?_
  refine q_getV (pc := 8) (v := .ref b1) hG fl_X6_18 dX6_paint_8 tA0 (w6.same tA0 rfl f1) ?_
  refine q_iconst (pc := 11) hG dX6_paint_11 ki_1 ?_
  refine q_iload (pc := 12) hG dX6_paint_12 4 rfl ?_
  refine q_iast (pc := 14) hG dX6_paint_14 w6 ai_131 T1 (q_ix rl_1 (by decide)) (q_r_any x4) (by decide) rfl (fun s14 u14 w14 => ?_)
  have m14 : s14 b1 (1 : Int32).toInt.toNat = .int x4 := by rw [u14]; exact q_up_same
  refine q_aload_n (pc := 15) hG dX6_paint_15 0 rfl ?_
  refine q_iconst (pc := 16) hG dX6_paint_16 ki_0 ?_
  refine q_putI (pc := 17) hG fl_X6_21 dX6_paint_17 w14 tA0 ff_5_3 rl_0 (by decide) rfl (fun s17 u17 w17 => ?_)
  have m17 : s17 a0 3 = .int 0 := by rw [u17]; exact q_up_same
  refine q_aload_n (pc := 20) hG dX6_paint_20 0 rfl ?_
  refine q_iconst (pc := 21) hG dX6_paint_21 ki_0 ?_
  refine q_putI (pc := 22) hG fl_X6_25 dX6_paint_22 w17 tA0 ff_5_4 rl_0 (by decide) rfl (fun s22 u22 w22 => ?_)
  have m22 : s22 a0 4 = .int 0 := by rw [u22]; exact q_up_same
  refine q_iconst (pc := 25) hG dX6_paint_25 ki_0 ?_
  refine q_istore (pc := 26) [(5, .int 0), (0, .ref a0), (1, .ref a1), (2, .ref a2), (3, .int x3), (4, .int x4)] hG dX6_paint_26 (by decide) rfl ?_
  refine q_aload_n (pc := 28) hG dX6_paint_28 2 rfl ?_
  refine q_getI (pc := 29) hG fl_X6_34 dX6_paint_29 w22.1 tA1 ff_6_0 (fun v29 f29 g29 => ?_)
  have f_1 := (w22.2 _ _ _ _ tA1 rfl).symm.trans f29
  refine q_iconst (pc := 32) hG dX6_paint_32 ki_1 ?_
  refine q_isub (pc := 33) hG dX6_paint_33 (fun v33 e33 => ?_)
  refine q_istore (pc := 34) [(6, .int v33), (5, .int 0), (0, .ref a0), (1, .ref a1), (2, .ref a2), (3, .int x3), (4, .int x4)] hG dX6_paint_34 (by decide) rfl ?_
  refine q_iconst (pc := 36) hG dX6_paint_36 ki_0 ?_
  refine q_istore (pc := 37) [(7, .int 0), (6, .int v33), (5, .int 0), (0, .ref a0), (1, .ref a1), (2, .ref a2), (3, .int x3), (4, .int x4)] hG dX6_paint_37 (by decide) rfl ?_
  have J39 : ∀ (n39 : Nat) (p39_5 : Int32) (p39_6 : Int32) (p39_7 : Int32) (σ39 : q_V), (q_r p39_5 0 64) → (q_r p39_6 (-1) 63) → (q_r p39_7 0 64) → (q_S md_X6_paint τ σ σ39) → (p39_5.toInt ≤ p39_7.toInt ∧ p39_6.toInt = v29.toInt - 1 - p39_7.toInt + p39_5.toInt) → ((64 - p39_7.toInt).toNat < n39) → q_O X 0 0 τ σ39 39 [(0, .ref a0), (1, .ref a1), (2, .ref a2), (5, .int p39_5), (6, .int p39_6), (7, .int p39_7)] [] := by
    intro n39
    induction n39 with
    | zero => intro p39_5 p39_6 p39_7 σ39 r39_5 r39_6 r39_7 hS39 iP39 hm39; exact absurd hm39 (Nat.not_lt_zero _)
    | succ n39 ih39 =>
      intro p39_5 p39_6 p39_7 σ39 r39_5 r39_6 r39_7 hS39 iP39 hm39
      refine q_iload (pc := 39) hG dX6_paint_39 5 rfl ?_
      refine q_aload_n (pc := 41) hG dX6_paint_41 1 rfl ?_
      refine q_getV (pc := 42) (v := .int v29) hG fl_X6_34 dX6_paint_42 tA1 (hS39.same tA1 rfl f_1) ?_
      refine q_icmp_ge (pc := 45) hG 96 dX6_paint_45 rfl ?_ ?_
      · intro c45
        refine q_aload_n (pc := 96) hG dX6_paint_96 0 rfl ?_
        refine q_iload (pc := 97) hG dX6_paint_97 3 rfl ?_
        refine q_iconst (pc := 99) hG dX6_paint_99 ki_1 ?_
        refine q_isub (pc := 100) hG dX6_paint_100 (fun v100 e100 => ?_)
        have r_2 := (q_subN (lo := (-1)) (hi := 63) e100 r39_5 rl_1 (by decide)).2
        refine q_putI (pc := 101) hG fl_X6_31 dX6_paint_101 hS39 tA0 ff_5_6 r_2 (by decide) rfl (fun s101 u101 w101 => ?_)
        have m101 : s101 a0 6 = .int v100 := by rw [u101]; exact q_up_same
        exact q_vrt hG hE dX6_paint_104 w101
      intro c45
      refine q_aload_n (pc := 48) hG dX6_paint_48 0 rfl ?_
      refine q_getV (pc := 49) (v := .ref b1) hG fl_X6_18 dX6_paint_49 tA0 (hS39.same tA0 rfl f1) ?_
      refine q_iconst (pc := 52) hG dX6_paint_52 ki_0 ?_
      refine q_iald (pc := 53) hG dX6_paint_53 hS39.1 ai_131 T1 (q_ix rl_0 (by decide)) (fun v53 f53 g53 => ?_)
      refine q_aload_n (pc := 54) hG dX6_paint_54 0 rfl ?_
      refine q_getV (pc := 55) (v := .ref b1) hG fl_X6_18 dX6_paint_55 tA0 (hS39.same tA0 rfl f1) ?_
      refine q_iconst (pc := 58) hG dX6_paint_58 ki_1 ?_
      refine q_iald (pc := 59) hG dX6_paint_59 hS39.1 ai_131 T1 (q_ix rl_1 (by decide)) (fun v59 f59 g59 => ?_)
      have J90 : ∀ (p90_5 : Int32) (p90_6 : Int32) (σ90 : q_V), (q_r p90_5 0 64) → (q_r p90_6 (-1) 63) → (q_S md_X6_paint τ σ σ90) → (p90_5.toInt ≤ p39_7.toInt + 1 ∧ p90_6.toInt = v29.toInt - 1 - (p39_7.toInt + 1) + p90_5.toInt) → q_O X 0 0 τ σ90 90 [(0, .ref a0), (1, .ref a1), (2, .ref a2), (5, .int p90_5), (6, .int p90_6), (7, .int p39_7)] [] := by
        intro p90_5 p90_6 σ90 r90_5 r90_6 hS90 iP90
        obtain ⟨v90, e90⟩ : ∃ z : Int32, z = p39_7 + Int32.ofInt 1 := ⟨_, rfl⟩
        have r_3 := q_rlt r39_7 g29 c45 63 (by decide)
        have h90 := q_incN (lo := 1) (hi := 64) r_3 (by decide) (by decide) e90
        refine q_iinc (pc := 90) [(7, .int v90), (0, .ref a0), (1, .ref a1), (2, .ref a2), (5, .int p90_5), (6, .int p90_6)] hG dX6_paint_90 5 rfl e90 (by decide) rfl ?_
        refine q_goto (pc := 93) 39 hG dX6_paint_93 rfl ?_
        refine q_lv [1, 2, 3, 4, 5, 0] rfl ?_
        have r_4 := (q_subN (lo := 7) (hi := 63) e33 g29 rl_1 (by decide)).2
        exact ih39 p90_5 p90_6 v90 σ90 r90_5 r90_6 (q_r.mono h90.2 (by decide)) hS90 (by have o0 := (q_subN (lo := 7) (hi := 63) e33 g29 rl_1 (by decide)).1; have o1 := iP39; have o2 := c45; have o3 := iP90; have o4 := h90.1; have o5 := r39_5; have o6 := r39_6; have o7 := r_3; have o8 := r90_5; have o9 := r90_6; have o10 := g29; have o11 := r_4; have o12 := h90.2; have l13 := tl_1; unfold q_r at o5 o6 o7 o8 o9 o10 o11 o12; omega) (q_measU hm39 (by have o0 := iP39; have o1 := c45; have o2 := iP90; have o3 := h90.1; have o4 := (q_subN (lo := 7) (hi := 63) e33 g29 rl_1 (by decide)).1; have o5 := r39_5; have o6 := r39_6; have o7 := r_3; have o8 := r90_5; have o9 := r90_6; have o10 := g29; have o11 := r_4; have o12 := h90.2; have l13 := tl_1; unfold q_r at o5 o6 o7 o8 o9 o10 o11 o12; omega) (h90.2).2)
      refine q_icmp_gt (pc := 60) hG 78 dX6_paint_60 rfl ?_ ?_
      · intro c60
        refine q_aload_n (pc := 78) hG dX6_paint_78 0 rfl ?_
        refine q_aload_n (pc := 79) hG dX6_paint_79 1 rfl ?_
        refine q_aload_n (pc := 80) hG dX6_paint_80 2 rfl ?_
        refine q_iconst (pc := 81) hG dX6_paint_81 ki_1 ?_
        refine q_iload (pc := 82) hG dX6_paint_82 4 rfl ?_
        have r_5 := q_rlt r39_7 g29 c45 63 (by decide)
        have r_6 := (q_subN (lo := 7) (hi := 63) e33 g29 rl_1 (by decide)).2
        refine q_cVv (pc := 84) [.ref a1, .ref a2, .int 1, .int p39_6] [] hG (c_X6_paintOne τ σ39 a0 a1 a2 1 p39_6 hS39.1 tA0 tA1 tA2 (q_r.mono rl_1 (by decide)) (show q_r p39_6 0 63 from ⟨(by have o0 := iP39; have o1 := c45; have o2 := (q_subN (lo := 7) (hi := 63) e33 g29 rl_1 (by decide)).1; have o3 := r39_5; have o4 := r39_6; have o5 := r_5; have o6 := g29; have o7 := r_6; have l8 := tl_1; unfold q_r at o3 o4 o5 o6 o7; omega), (by have o0 := iP39; have o1 := c45; have o2 := (q_subN (lo := 7) (hi := 63) e33 g29 rl_1 (by decide)).1; have o3 := r39_5; have o4 := r39_6; have o5 := r_5; have o6 := g29; have o7 := r_6; have l8 := tl_1; unfold q_r at o3 o4 o5 o6 o7; omega)⟩)) my_X6_paintOne mv_X6_paintOne w609 dX6_paint_84 tA0 (by decide) rfl rfl (Nat.le_of_ble_eq_true rfl) (by decide) (fun s84 p84 => ?_)
        have w84 := hS39.trans p84 rfl
        obtain ⟨v87, e87⟩ : ∃ z : Int32, z = p39_6 + Int32.ofInt (-1) := ⟨_, rfl⟩
        have h87 := q_incN (lo := (-2)) (hi := 62) r39_6 (by decide) (by decide) e87
        refine q_iinc (pc := 87) [(6, .int v87), (0, .ref a0), (1, .ref a1), (2, .ref a2), (5, .int p39_5), (7, .int p39_7)] hG dX6_paint_87 4 rfl e87 (by decide) rfl ?_
        refine q_lv [1, 2, 3, 4, 0, 5] rfl ?_
        exact J90 p39_5 v87 s84 r39_5 (show q_r v87 (-1) 63 from ⟨(by have o0 := h87.1; have o1 := iP39; have o2 := c45; have o3 := (q_subN (lo := 7) (hi := 63) e33 g29 rl_1 (by decide)).1; have o4 := r39_5; have o5 := r39_6; have o6 := r_5; have o7 := g29; have o8 := r_6; have o9 := h87.2; have l10 := tl_1; unfold q_r at o4 o5 o6 o7 o8 o9; omega), (by have o0 := h87.1; have o1 := iP39; have o2 := c45; have o3 := (q_subN (lo := 7) (hi := 63) e33 g29 rl_1 (by decide)).1; have o4 := r39_5; have o5 := r39_6; have o6 := r_5; have o7 := g29; have o8 := r_6; have o9 := h87.2; have l10 := tl_1; unfold q_r at o4 o5 o6 o7 o8 o9; omega)⟩) w84 (by have o0 := (q_subN (lo := 7) (hi := 63) e33 g29 rl_1 (by decide)).1; have o1 := iP39; have o2 := c45; have o3 := h87.1; have o4 := r39_5; have o5 := r39_6; have o6 := r_5; have o7 := g29; have o8 := r_6; have o9 := h87.2; have l10 := tl_1; unfold q_r at o4 o5 o6 o7 o8 o9; omega)
      intro c60
      refine q_aload_n (pc := 63) hG dX6_paint_63 0 rfl ?_
      refine q_aload_n (pc := 64) hG dX6_paint_64 1 rfl ?_
      refine q_aload_n (pc := 65) hG dX6_paint_65 2 rfl ?_
      refine q_iconst (pc := 66) hG dX6_paint_66 ki_0 ?_
      refine q_iload (pc := 67) hG dX6_paint_67 3 rfl ?_
      have r_7 := q_rlt r39_7 g29 c45 63 (by decide)
      have r_8 := (q_subN (lo := 7) (hi := 63) e33 g29 rl_1 (by decide)).2
      refine q_cVv (pc := 69) [.ref a1, .ref a2, .int 0, .int p39_5] [] hG (c_X6_paintOne τ σ39 a0 a1 a2 0 p39_5 hS39.1 tA0 tA1 tA2 (q_r.mono rl_0 (by decide)) (show q_r p39_5 0 63 from ⟨(by have o0 := iP39; have o1 := c45; have o2 := (q_subN (lo := 7) (hi := 63) e33 g29 rl_1 (by decide)).1; have o3 := r39_5; have o4 := r39_6; have o5 := r_7; have o6 := g29; have o7 := r_8; have l8 := tl_1; unfold q_r at o3 o4 o5 o6 o7; omega), (by have o0 := iP39; have o1 := c45; have o2 := (q_subN (lo := 7) (hi := 63) e33 g29 rl_1 (by decide)).1; have o3 := r39_5; have o4 := r39_6; have o5 := r_7; have o6 := g29; have o7 := r_8; have l8 := tl_1; unfold q_r at o3 o4 o5 o6 o7; omega)⟩)) my_X6_paintOne mv_X6_paintOne w609 dX6_paint_69 tA0 (by decide) rfl rfl (Nat.le_of_ble_eq_true rfl) (by decide) (fun s69 p69 => ?_)
      have w69 := hS39.trans p69 rfl
      obtain ⟨v72, e72⟩ : ∃ z : Int32, z = p39_5 + Int32.ofInt 1 := ⟨_, rfl⟩
      have h72 := q_incN (lo := 1) (hi := 65) r39_5 (by decide) (by decide) e72
      refine q_iinc (pc := 72) [(5, .int v72), (0, .ref a0), (1, .ref a1), (2, .ref a2), (6, .int p39_6), (7, .int p39_7)] hG dX6_paint_72 3 rfl e72 (by decide) rfl ?_
      refine q_goto (pc := 75) 90 hG dX6_paint_75 rfl ?_
      refine q_lv [1, 2, 3, 0, 4, 5] rfl ?_
      exact J90 v72 p39_6 s69 (show q_r v72 0 64 from ⟨(by have o0 := h72.1; have o1 := iP39; have o2 := c45; have o3 := (q_subN (lo := 7) (hi := 63) e33 g29 rl_1 (by decide)).1; have o4 := r39_5; have o5 := r39_6; have o6 := r_7; have o7 := g29; have o8 := r_8; have o9 := h72.2; have l10 := tl_1; unfold q_r at o4 o5 o6 o7 o8 o9; omega), (by have o0 := h72.1; have o1 := iP39; have o2 := c45; have o3 := (q_subN (lo := 7) (hi := 63) e33 g29 rl_1 (by decide)).1; have o4 := r39_5; have o5 := r39_6; have o6 := r_7; have o7 := g29; have o8 := r_8; have o9 := h72.2; have l10 := tl_1; unfold q_r at o4 o5 o6 o7 o8 o9; omega)⟩) r39_6 w69 (by have o0 := (q_subN (lo := 7) (hi := 63) e33 g29 rl_1 (by decide)).1; have o1 := iP39; have o2 := c45; have o3 := h72.1; have o4 := r39_5; have o5 := r39_6; have o6 := r_7; have o7 := g29; have o8 := r_8; have o9 := h72.2; have l10 := tl_1; unfold q_r at o4 o5 o6 o7 o8 o9; omega)
  refine q_lv [3, 4, 5, 2, 1, 0] rfl ?_
  have r_9 := (q_subN (lo := 7) (hi := 63) e33 g29 rl_1 (by decide)).2
  exact J39 _ 0 v33 0 s22 (q_r.mono rl_0 (by decide)) (q_r.mono r_9 (by decide)) (q_r.mono rl_0 (by decide)) w22 (by have o0 := (q_subN (lo := 7) (hi := 63) e33 g29 rl_1 (by decide)).1; have o1 := g29; have o2 := r_9; have l3 := tl_0; have l4 := tl_1; unfold q_r at o1 o2; omega) (Nat.lt_succ_self _)
theorem dX6_conesNeeded_0 : decode cX6_conesNeeded 0 = .ok (.iconst 0, 1) := by decide +kernel
theorem dX6_conesNeeded_1 : decode cX6_conesNeeded 1 = .ok (.istore_n 2, 1) := by decide +kernel
theorem dX6_conesNeeded_2 : decode cX6_conesNeeded 2 = .ok (.iconst 0, 1) := by decide +kernel
theorem dX6_conesNeeded_3 : decode cX6_conesNeeded 3 = .ok (.istore_n 3, 1) := by decide +kernel
theorem dX6_conesNeeded_4 : decode cX6_conesNeeded 4 = .ok (.iload_n 3, 1) := by decide +kernel
theorem dX6_conesNeeded_5 : decode cX6_conesNeeded 5 = .ok (.iload_n 1, 1) := by decide +kernel
theorem dX6_conesNeeded_6 : decode cX6_conesNeeded 6 = .ok (.if_icmp .ge 76, 3) := by decide +kernel
theorem dX6_conesNeeded_9 : decode cX6_conesNeeded 9 = .ok (.iconst 0, 1) := by decide +kernel
theorem dX6_conesNeeded_10 : decode cX6_conesNeeded 10 = .ok (.istore 4, 2) := by decide +kernel
theorem dX6_conesNeeded_12 : decode cX6_conesNeeded 12 = .ok (.iconst 0, 1) := by decide +kernel
theorem dX6_conesNeeded_13 : decode cX6_conesNeeded 13 = .ok (.istore 5, 2) := by decide +kernel
theorem dX6_conesNeeded_15 : decode cX6_conesNeeded 15 = .ok (.iload 5, 2) := by decide +kernel
theorem dX6_conesNeeded_17 : decode cX6_conesNeeded 17 = .ok (.iload_n 1, 1) := by decide +kernel
theorem dX6_conesNeeded_18 : decode cX6_conesNeeded 18 = .ok (.if_icmp .ge 51, 3) := by decide +kernel
theorem dX6_conesNeeded_21 : decode cX6_conesNeeded 21 = .ok (.iload 4, 2) := by decide +kernel
theorem dX6_conesNeeded_23 : decode cX6_conesNeeded 23 = .ok (.aload_n 0, 1) := by decide +kernel
theorem dX6_conesNeeded_24 : decode cX6_conesNeeded 24 = .ok (.getfield 9, 3) := by decide +kernel
theorem dX6_conesNeeded_27 : decode cX6_conesNeeded 27 = .ok (.iload 5, 2) := by decide +kernel
theorem dX6_conesNeeded_29 : decode cX6_conesNeeded 29 = .ok (.iaload, 1) := by decide +kernel
theorem dX6_conesNeeded_30 : decode cX6_conesNeeded 30 = .ok (.aload_n 0, 1) := by decide +kernel
theorem dX6_conesNeeded_31 : decode cX6_conesNeeded 31 = .ok (.getfield 9, 3) := by decide +kernel
theorem dX6_conesNeeded_34 : decode cX6_conesNeeded 34 = .ok (.iload_n 3, 1) := by decide +kernel
theorem dX6_conesNeeded_35 : decode cX6_conesNeeded 35 = .ok (.iaload, 1) := by decide +kernel
theorem dX6_conesNeeded_36 : decode cX6_conesNeeded 36 = .ok (.if_icmp .gt 23, 3) := by decide +kernel
theorem dX6_conesNeeded_39 : decode cX6_conesNeeded 39 = .ok (.aload_n 0, 1) := by decide +kernel
theorem dX6_conesNeeded_40 : decode cX6_conesNeeded 40 = .ok (.getfield 9, 3) := by decide +kernel
theorem dX6_conesNeeded_43 : decode cX6_conesNeeded 43 = .ok (.iload_n 3, 1) := by decide +kernel
theorem dX6_conesNeeded_44 : decode cX6_conesNeeded 44 = .ok (.iaload, 1) := by decide +kernel
theorem dX6_conesNeeded_45 : decode cX6_conesNeeded 45 = .ok (.aload_n 0, 1) := by decide +kernel
theorem dX6_conesNeeded_46 : decode cX6_conesNeeded 46 = .ok (.getfield 15, 3) := by decide +kernel
theorem dX6_conesNeeded_49 : decode cX6_conesNeeded 49 = .ok (.iload 5, 2) := by decide +kernel
theorem dX6_conesNeeded_51 : decode cX6_conesNeeded 51 = .ok (.iaload, 1) := by decide +kernel
theorem dX6_conesNeeded_52 : decode cX6_conesNeeded 52 = .ok (.if_icmp .ge 7, 3) := by decide +kernel
theorem dX6_conesNeeded_55 : decode cX6_conesNeeded 55 = .ok (.iconst 1, 1) := by decide +kernel
theorem dX6_conesNeeded_56 : decode cX6_conesNeeded 56 = .ok (.goto 4, 3) := by decide +kernel
theorem dX6_conesNeeded_59 : decode cX6_conesNeeded 59 = .ok (.iconst 0, 1) := by decide +kernel
theorem dX6_conesNeeded_60 : decode cX6_conesNeeded 60 = .ok (.iadd, 1) := by decide +kernel
theorem dX6_conesNeeded_61 : decode cX6_conesNeeded 61 = .ok (.istore 4, 2) := by decide +kernel
theorem dX6_conesNeeded_63 : decode cX6_conesNeeded 63 = .ok (.iinc 5 1, 3) := by decide +kernel
theorem dX6_conesNeeded_66 : decode cX6_conesNeeded 66 = .ok (.goto (-51), 3) := by decide +kernel
theorem dX6_conesNeeded_69 : decode cX6_conesNeeded 69 = .ok (.iload_n 2, 1) := by decide +kernel
theorem dX6_conesNeeded_70 : decode cX6_conesNeeded 70 = .ok (.iload 4, 2) := by decide +kernel
theorem dX6_conesNeeded_72 : decode cX6_conesNeeded 72 = .ok (.invokestatic 49, 3) := by decide +kernel
theorem dX6_conesNeeded_75 : decode cX6_conesNeeded 75 = .ok (.istore_n 2, 1) := by decide +kernel
theorem dX6_conesNeeded_76 : decode cX6_conesNeeded 76 = .ok (.iinc 3 1, 3) := by decide +kernel
theorem dX6_conesNeeded_79 : decode cX6_conesNeeded 79 = .ok (.goto (-75), 3) := by decide +kernel
theorem dX6_conesNeeded_82 : decode cX6_conesNeeded 82 = .ok (.iload_n 2, 1) := by decide +kernel
theorem dX6_conesNeeded_83 : decode cX6_conesNeeded 83 = .ok (.ireturn, 1) := by decide +kernel
set_option maxRecDepth 100000 in
set_option maxHeartbeats 4000000 in
theorem c_X6_conesNeeded {l : Launch} {D : q_D} (τ : q_T) (σ : q_V) (a0 : Nat) (x1 : Int32) (hI : q_I τ σ) (tA0 : τ a0 = some (5, 1)) (rA1 : q_r x1 8 64) : q_Cp l D yX6_conesNeeded cX6_conesNeeded 6 (some .int) 1 21 τ σ [.ref a0, .int x1] (fun r => q_r r 0 2147483647) := by
  refine q_meti rfl (Nat.le_of_ble_eq_true rfl) (fun X hG hE => ?_)
  show q_O X 0 0 τ σ 0 [(0, .ref a0), (1, .int x1)] []
  refine q_iconst (pc := 0) hG dX6_conesNeeded_0 ki_0 ?_
  refine q_istore_n (pc := 1) [(2, .int 0), (0, .ref a0), (1, .int x1)] hG dX6_conesNeeded_1 (by decide) rfl ?_
  refine q_iconst (pc := 2) hG dX6_conesNeeded_2 ki_0 ?_
  refine q_istore_n (pc := 3) [(3, .int 0), (2, .int 0), (0, .ref a0), (1, .int x1)] hG dX6_conesNeeded_3 (by decide) rfl ?_
  have J4 : ∀ (n4 : Nat) (p4_2 : Int32) (p4_3 : Int32), (q_r p4_2 0 2147483647) → (q_r p4_3 0 64) → ((64 - p4_3.toInt).toNat < n4) → q_O X 0 0 τ σ 4 [(0, .ref a0), (1, .int x1), (2, .int p4_2), (3, .int p4_3)] [] := by
    intro n4
    induction n4 with
    | zero => intro p4_2 p4_3 r4_2 r4_3 hm4; exact absurd hm4 (Nat.not_lt_zero _)
    | succ n4 ih4 =>
      intro p4_2 p4_3 r4_2 r4_3 hm4
      refine q_iload_n (pc := 4) hG dX6_conesNeeded_4 3 rfl ?_
      refine q_iload_n (pc := 5) hG dX6_conesNeeded_5 1 rfl ?_
      refine q_icmp_ge (pc := 6) hG 82 dX6_conesNeeded_6 rfl ?_ ?_
      · intro c6
        refine q_iload_n (pc := 82) hG dX6_conesNeeded_82 2 rfl ?_
        exact q_irt hG hE dX6_conesNeeded_83 ⟨rfl, r4_2⟩
      intro c6
      refine q_iconst (pc := 9) hG dX6_conesNeeded_9 ki_0 ?_
      refine q_istore (pc := 10) [(4, .int 0), (0, .ref a0), (1, .int x1), (2, .int p4_2), (3, .int p4_3)] hG dX6_conesNeeded_10 (by decide) rfl ?_
      refine q_iconst (pc := 12) hG dX6_conesNeeded_12 ki_0 ?_
      refine q_istore (pc := 13) [(5, .int 0), (4, .int 0), (0, .ref a0), (1, .int x1), (2, .int p4_2), (3, .int p4_3)] hG dX6_conesNeeded_13 (by decide) rfl ?_
      have J15 : ∀ (n15 : Nat) (p15_4 : Int32) (p15_5 : Int32), (q_r p15_5 0 64) → ((64 - p15_5.toInt).toNat < n15) → q_O X 0 0 τ σ 15 [(0, .ref a0), (1, .int x1), (2, .int p4_2), (3, .int p4_3), (4, .int p15_4), (5, .int p15_5)] [] := by
        intro n15
        induction n15 with
        | zero => intro p15_4 p15_5 r15_5 hm15; exact absurd hm15 (Nat.not_lt_zero _)
        | succ n15 ih15 =>
          intro p15_4 p15_5 r15_5 hm15
          refine q_iload (pc := 15) hG dX6_conesNeeded_15 5 rfl ?_
          refine q_iload_n (pc := 17) hG dX6_conesNeeded_17 1 rfl ?_
          refine q_icmp_ge (pc := 18) hG 69 dX6_conesNeeded_18 rfl ?_ ?_
          · intro c18
            refine q_iload_n (pc := 69) hG dX6_conesNeeded_69 2 rfl ?_
            refine q_iload (pc := 70) hG dX6_conesNeeded_70 4 rfl ?_
            refine q_pS (pc := 72) [.int p4_2, .int p15_4] [] hG (c_J9_max_7cf53 τ σ p4_2 p15_4 hI) my_J9_max_7cf53 w262 w613 dX6_conesNeeded_72 rfl rfl (Nat.le_of_ble_eq_true rfl) (by decide) (fun v72 p72 => ?_)
            refine q_istore_n (pc := 75) [(2, .int v72), (0, .ref a0), (1, .int x1), (3, .int p4_3), (4, .int p15_4), (5, .int p15_5)] hG dX6_conesNeeded_75 (by decide) rfl ?_
            obtain ⟨v76, e76⟩ : ∃ z : Int32, z = p4_3 + Int32.ofInt 1 := ⟨_, rfl⟩
            have r_1 := q_rlt r4_3 rA1 c6 63 (by decide)
            have h76 := q_incN (lo := 1) (hi := 64) r_1 (by decide) (by decide) e76
            refine q_iinc (pc := 76) [(3, .int v76), (2, .int v72), (0, .ref a0), (1, .int x1), (4, .int p15_4), (5, .int p15_5)] hG dX6_conesNeeded_76 3 rfl e76 (by decide) rfl ?_
            refine q_goto (pc := 79) 4 hG dX6_conesNeeded_79 rfl ?_
            refine q_lv [2, 3, 1, 0] rfl ?_
            have r_2 := q_maxN (lo := 0) (hi := 2147483647) p72.2.2 r4_2 (q_r_any p15_4) (by decide)
            have r_3 := q_rge r15_5 rA1 c18
            exact ih4 v72 v76 r_2 (q_r.mono h76.2 (by decide)) (q_measU hm4 (by have o0 := c6; have o1 := c18; have o2 := h76.1; have o3 := r_3; have o4 := r_1; have o5 := h76.2; have o6 := rA1; unfold q_r at o3 o4 o5 o6; omega) (h76.2).2)
          intro c18
          refine q_iload (pc := 21) hG dX6_conesNeeded_21 4 rfl ?_
          refine q_aload_n (pc := 23) hG dX6_conesNeeded_23 0 rfl ?_
          refine q_getR (pc := 24) (k2 := 129) (n2 := 64) hG fl_X6_9 dX6_conesNeeded_24 hI tA0 ff_5_0 (fun b24 f24 T24 => ?_)
          refine q_iload (pc := 27) hG dX6_conesNeeded_27 5 rfl ?_
          have r_4 := q_rlt r15_5 rA1 c18 63 (by decide)
          refine q_iald (pc := 29) hG dX6_conesNeeded_29 hI ai_129 T24 (q_ix r_4 (by decide)) (fun v29 f29 g29 => ?_)
          refine q_aload_n (pc := 30) hG dX6_conesNeeded_30 0 rfl ?_
          refine q_getV (pc := 31) (v := .ref b24) hG fl_X6_9 dX6_conesNeeded_31 tA0 f24 ?_
          refine q_iload_n (pc := 34) hG dX6_conesNeeded_34 3 rfl ?_
          have r_5 := q_rlt r4_3 rA1 c6 63 (by decide)
          refine q_iald (pc := 35) hG dX6_conesNeeded_35 hI ai_129 T24 (q_ix r_5 (by decide)) (fun v35 f35 g35 => ?_)
          have J60 : ∀ (p60_s0 : Int32), (q_r p60_s0 0 1) → q_O X 0 0 τ σ 60 [(0, .ref a0), (1, .int x1), (2, .int p4_2), (3, .int p4_3), (5, .int p15_5)] [.int p60_s0, .int p15_4] := by
            intro p60_s0 r60_s0
            refine q_iadd (pc := 60) hG dX6_conesNeeded_60 (fun v60 e60 => ?_)
            refine q_istore (pc := 61) [(4, .int v60), (0, .ref a0), (1, .int x1), (2, .int p4_2), (3, .int p4_3), (5, .int p15_5)] hG dX6_conesNeeded_61 (by decide) rfl ?_
            obtain ⟨v63, e63⟩ : ∃ z : Int32, z = p15_5 + Int32.ofInt 1 := ⟨_, rfl⟩
            have h63 := q_incN (lo := 1) (hi := 64) r_4 (by decide) (by decide) e63
            refine q_iinc (pc := 63) [(5, .int v63), (4, .int v60), (0, .ref a0), (1, .int x1), (2, .int p4_2), (3, .int p4_3)] hG dX6_conesNeeded_63 5 rfl e63 (by decide) rfl ?_
            refine q_goto (pc := 66) 15 hG dX6_conesNeeded_66 rfl ?_
            refine q_lv [2, 3, 4, 5, 1, 0] rfl ?_
            exact ih15 v60 v63 (q_r.mono h63.2 (by decide)) (q_measU hm15 (by have o0 := c18; have o1 := h63.1; have o2 := c6; have o3 := r_4; have o4 := r_5; have o5 := h63.2; have o6 := rA1; unfold q_r at o3 o4 o5 o6; omega) (h63.2).2)
          have J59 : q_O X 0 0 τ σ 59 [(0, .ref a0), (1, .int x1), (2, .int p4_2), (3, .int p4_3), (5, .int p15_5)] [.int p15_4] := by
            refine q_iconst (pc := 59) hG dX6_conesNeeded_59 ki_0 ?_
            refine q_lv [0, 1, 2, 3, 4] rfl ?_
            exact J60 0 (q_r.mono rl_0 (by decide))
          refine q_icmp_gt (pc := 36) hG 59 dX6_conesNeeded_36 rfl ?_ ?_
          · intro c36
            refine q_lv [0, 1, 2, 3, 5] rfl ?_
            exact J59 
          intro c36
          refine q_aload_n (pc := 39) hG dX6_conesNeeded_39 0 rfl ?_
          refine q_getV (pc := 40) (v := .ref b24) hG fl_X6_9 dX6_conesNeeded_40 tA0 f24 ?_
          refine q_iload_n (pc := 43) hG dX6_conesNeeded_43 3 rfl ?_
          refine q_ialdV (pc := 44) (v := .int v35) hG dX6_conesNeeded_44 T24 (by decide) (by decide) (q_ix r_5 (by decide)) f35 ?_
          refine q_aload_n (pc := 45) hG dX6_conesNeeded_45 0 rfl ?_
          refine q_getR (pc := 46) (k2 := 130) (n2 := 64) hG fl_X6_15 dX6_conesNeeded_46 hI tA0 ff_5_1 (fun b46 f46 T46 => ?_)
          refine q_iload (pc := 49) hG dX6_conesNeeded_49 5 rfl ?_
          refine q_iald (pc := 51) hG dX6_conesNeeded_51 hI ai_130 T46 (q_ix r_4 (by decide)) (fun v51 f51 g51 => ?_)
          refine q_icmp_ge (pc := 52) hG 59 dX6_conesNeeded_52 rfl ?_ ?_
          · intro c52
            refine q_lv [0, 1, 2, 3, 5] rfl ?_
            exact J59 
          intro c52
          refine q_iconst (pc := 55) hG dX6_conesNeeded_55 ki_1 ?_
          refine q_goto (pc := 56) 60 hG dX6_conesNeeded_56 rfl ?_
          refine q_lv [0, 1, 2, 3, 5] rfl ?_
          exact J60 1 (q_r.mono rl_1 (by decide))
      refine q_lv [2, 3, 4, 5, 1, 0] rfl ?_
      exact J15 _ 0 0 (q_r.mono rl_0 (by decide)) (Nat.lt_succ_self _)
  refine q_lv [2, 3, 1, 0] rfl ?_
  exact J4 _ 0 0 (q_r.mono rl_0 (by decide)) (q_r.mono rl_0 (by decide)) (Nat.lt_succ_self _)
