/-! laid by wip/p2/build.py -/
theorem dJ9_floorMod_7cf53_0 : decode cJ9_floorMod_7cf53 0 = .ok (.iload_n 0, 1) := by decide +kernel
theorem dJ9_floorMod_7cf53_1 : decode cJ9_floorMod_7cf53 1 = .ok (.iload_n 1, 1) := by decide +kernel
theorem dJ9_floorMod_7cf53_2 : decode cJ9_floorMod_7cf53 2 = .ok (.irem, 1) := by decide +kernel
theorem dJ9_floorMod_7cf53_3 : decode cJ9_floorMod_7cf53 3 = .ok (.istore_n 2, 1) := by decide +kernel
theorem dJ9_floorMod_7cf53_4 : decode cJ9_floorMod_7cf53 4 = .ok (.iload_n 0, 1) := by decide +kernel
theorem dJ9_floorMod_7cf53_5 : decode cJ9_floorMod_7cf53 5 = .ok (.iload_n 1, 1) := by decide +kernel
theorem dJ9_floorMod_7cf53_6 : decode cJ9_floorMod_7cf53 6 = .ok (.ixor, 1) := by decide +kernel
theorem dJ9_floorMod_7cf53_7 : decode cJ9_floorMod_7cf53 7 = .ok (.ifCond .ge 11, 3) := by decide +kernel
theorem dJ9_floorMod_7cf53_10 : decode cJ9_floorMod_7cf53 10 = .ok (.iload_n 2, 1) := by decide +kernel
theorem dJ9_floorMod_7cf53_11 : decode cJ9_floorMod_7cf53 11 = .ok (.ifCond .eq 7, 3) := by decide +kernel
theorem dJ9_floorMod_7cf53_14 : decode cJ9_floorMod_7cf53 14 = .ok (.iload_n 2, 1) := by decide +kernel
theorem dJ9_floorMod_7cf53_15 : decode cJ9_floorMod_7cf53 15 = .ok (.iload_n 1, 1) := by decide +kernel
theorem dJ9_floorMod_7cf53_16 : decode cJ9_floorMod_7cf53 16 = .ok (.iadd, 1) := by decide +kernel
theorem dJ9_floorMod_7cf53_17 : decode cJ9_floorMod_7cf53 17 = .ok (.ireturn, 1) := by decide +kernel
theorem dJ9_floorMod_7cf53_18 : decode cJ9_floorMod_7cf53 18 = .ok (.iload_n 2, 1) := by decide +kernel
theorem dJ9_floorMod_7cf53_19 : decode cJ9_floorMod_7cf53 19 = .ok (.ireturn, 1) := by decide +kernel
set_option maxRecDepth 100000 in
set_option maxHeartbeats 4000000 in
theorem c_J9_floorMod_7cf53 {l : Launch} {D : q_D} (τ : q_T) (σ : q_V) (x0 : Int32) (x1 : Int32) (hI : q_I τ σ) (rA1 : q_r x1 1 2147483647) : q_Cp l D yJ9_floorMod_7cf53 cJ9_floorMod_7cf53 3 (some .int) 0 0 τ σ [.int x0, .int x1] (fun r => q_r r (-2147483648) 2147483647) := by
  refine q_meti (by decide +kernel) (Nat.le_of_ble_eq_true rfl) (fun X hG hE => ?_)
  show q_O X 0 0 τ σ 0 [(0, .int x0), (1, .int x1)] []
  refine q_iload_n (pc := 0) hG dJ9_floorMod_7cf53_0 0 rfl ?_
  refine q_iload_n (pc := 1) hG dJ9_floorMod_7cf53_1 1 rfl ?_
  refine q_irem (pc := 2) hG dJ9_floorMod_7cf53_2 (q_nzr rA1 (by decide)) (fun v2 e2 => ?_)
  refine q_istore_n (pc := 3) [(2, .int v2), (0, .int x0), (1, .int x1)] hG dJ9_floorMod_7cf53_3 (by decide) rfl ?_
  refine q_iload_n (pc := 4) hG dJ9_floorMod_7cf53_4 1 rfl ?_
  refine q_iload_n (pc := 5) hG dJ9_floorMod_7cf53_5 2 rfl ?_
  refine q_ixor (pc := 6) hG dJ9_floorMod_7cf53_6 (fun v6 e6 => ?_)
  refine q_if_ge (pc := 7) hG 18 dJ9_floorMod_7cf53_7 rfl ?_ ?_
  · intro c7
    refine q_iload_n (pc := 18) hG dJ9_floorMod_7cf53_18 0 rfl ?_
    have r_1 := q_remN (lo := (-2147483646)) (hi := 2147483646) e2 (q_r_any x0) rA1 (by decide)
    exact q_irt hG hE dJ9_floorMod_7cf53_19 ⟨rfl, (q_r.mono r_1 (by decide))⟩
  intro c7
  refine q_iload_n (pc := 10) hG dJ9_floorMod_7cf53_10 0 rfl ?_
  refine q_if_eq (pc := 11) hG 18 dJ9_floorMod_7cf53_11 rfl ?_ ?_
  · intro c11
    have r_2 := q_remN (lo := (-2147483646)) (hi := 2147483646) e2 (q_r_any x0) rA1 (by decide)
    refine q_iload_n (pc := 18) hG dJ9_floorMod_7cf53_18 0 rfl ?_
    have r_3 := q_zeq c11
    exact q_irt hG hE dJ9_floorMod_7cf53_19 ⟨rfl, (q_r.mono r_3 (by decide))⟩
  intro c11
  have r_4 := q_remN (lo := (-2147483646)) (hi := 2147483646) e2 (q_r_any x0) rA1 (by decide)
  refine q_iload_n (pc := 14) hG dJ9_floorMod_7cf53_14 0 rfl ?_
  refine q_iload_n (pc := 15) hG dJ9_floorMod_7cf53_15 2 rfl ?_
  refine q_iadd (pc := 16) hG dJ9_floorMod_7cf53_16 (fun v16 e16 => ?_)
  exact q_irt hG hE dJ9_floorMod_7cf53_17 ⟨rfl, (q_r_any v16)⟩
theorem dX2_nextGreen_0 : decode cX2_nextGreen 0 = .ok (.iconst 1, 1) := by decide +kernel
theorem dX2_nextGreen_1 : decode cX2_nextGreen 1 = .ok (.iconst 2, 1) := by decide +kernel
theorem dX2_nextGreen_2 : decode cX2_nextGreen 2 = .ok (.iload_n 2, 1) := by decide +kernel
theorem dX2_nextGreen_3 : decode cX2_nextGreen 3 = .ok (.iload_n 3, 1) := by decide +kernel
theorem dX2_nextGreen_4 : decode cX2_nextGreen 4 = .ok (.iadd, 1) := by decide +kernel
theorem dX2_nextGreen_5 : decode cX2_nextGreen 5 = .ok (.imul, 1) := by decide +kernel
theorem dX2_nextGreen_6 : decode cX2_nextGreen 6 = .ok (.invokestatic 33, 3) := by decide +kernel
theorem dX2_nextGreen_9 : decode cX2_nextGreen 9 = .ok (.istore 4, 2) := by decide +kernel
theorem dX2_nextGreen_11 : decode cX2_nextGreen 11 = .ok (.iload_n 1, 1) := by decide +kernel
theorem dX2_nextGreen_12 : decode cX2_nextGreen 12 = .ok (.ifCond .ne 7, 3) := by decide +kernel
theorem dX2_nextGreen_15 : decode cX2_nextGreen 15 = .ok (.iconst 0, 1) := by decide +kernel
theorem dX2_nextGreen_16 : decode cX2_nextGreen 16 = .ok (.goto 6, 3) := by decide +kernel
theorem dX2_nextGreen_19 : decode cX2_nextGreen 19 = .ok (.iload_n 2, 1) := by decide +kernel
theorem dX2_nextGreen_20 : decode cX2_nextGreen 20 = .ok (.iload_n 3, 1) := by decide +kernel
theorem dX2_nextGreen_21 : decode cX2_nextGreen 21 = .ok (.iadd, 1) := by decide +kernel
theorem dX2_nextGreen_22 : decode cX2_nextGreen 22 = .ok (.istore 5, 2) := by decide +kernel
theorem dX2_nextGreen_24 : decode cX2_nextGreen 24 = .ok (.iload_n 0, 1) := by decide +kernel
theorem dX2_nextGreen_25 : decode cX2_nextGreen 25 = .ok (.iload 5, 2) := by decide +kernel
theorem dX2_nextGreen_27 : decode cX2_nextGreen 27 = .ok (.isub, 1) := by decide +kernel
theorem dX2_nextGreen_28 : decode cX2_nextGreen 28 = .ok (.iload 4, 2) := by decide +kernel
theorem dX2_nextGreen_30 : decode cX2_nextGreen 30 = .ok (.invokestatic 42, 3) := by decide +kernel
theorem dX2_nextGreen_33 : decode cX2_nextGreen 33 = .ok (.istore 6, 2) := by decide +kernel
theorem dX2_nextGreen_35 : decode cX2_nextGreen 35 = .ok (.iload 6, 2) := by decide +kernel
theorem dX2_nextGreen_37 : decode cX2_nextGreen 37 = .ok (.iload_n 2, 1) := by decide +kernel
theorem dX2_nextGreen_38 : decode cX2_nextGreen 38 = .ok (.if_icmp .ge 7, 3) := by decide +kernel
theorem dX2_nextGreen_41 : decode cX2_nextGreen 41 = .ok (.iload_n 0, 1) := by decide +kernel
theorem dX2_nextGreen_42 : decode cX2_nextGreen 42 = .ok (.goto 10, 3) := by decide +kernel
theorem dX2_nextGreen_45 : decode cX2_nextGreen 45 = .ok (.iload_n 0, 1) := by decide +kernel
theorem dX2_nextGreen_46 : decode cX2_nextGreen 46 = .ok (.iload 4, 2) := by decide +kernel
theorem dX2_nextGreen_48 : decode cX2_nextGreen 48 = .ok (.iadd, 1) := by decide +kernel
theorem dX2_nextGreen_49 : decode cX2_nextGreen 49 = .ok (.iload 6, 2) := by decide +kernel
theorem dX2_nextGreen_51 : decode cX2_nextGreen 51 = .ok (.isub, 1) := by decide +kernel
theorem dX2_nextGreen_52 : decode cX2_nextGreen 52 = .ok (.ireturn, 1) := by decide +kernel
set_option maxRecDepth 100000 in
set_option maxHeartbeats 4000000 in
theorem c_X2_nextGreen {l : Launch} {D : q_D} (τ : q_T) (σ : q_V) (x0 : Int32) (x1 : Int32) (x2 : Int32) (x3 : Int32) (hI : q_I τ σ) (rA1 : q_r x1 0 1) (rA2 : q_r x2 1 20) (rA3 : q_r x3 0 9) : q_Cp l D yX2_nextGreen cX2_nextGreen 7 (some .int) 1 22 τ σ [.int x0, .int x1, .int x2, .int x3] (fun r => q_r r (-2147483648) 2147483647) := by
  refine q_meti rfl (Nat.le_of_ble_eq_true rfl) (fun X hG hE => ?_)
  show q_O X 0 0 τ σ 0 [(0, .int x0), (1, .int x1), (2, .int x2), (3, .int x3)] []
  refine q_iconst (pc := 0) hG dX2_nextGreen_0 ki_1 ?_
  refine q_iconst (pc := 1) hG dX2_nextGreen_1 ki_2 ?_
  refine q_iload_n (pc := 2) hG dX2_nextGreen_2 2 rfl ?_
  refine q_iload_n (pc := 3) hG dX2_nextGreen_3 3 rfl ?_
  refine q_iadd (pc := 4) hG dX2_nextGreen_4 (fun v4 e4 => ?_)
  refine q_imul (pc := 5) hG dX2_nextGreen_5 (fun v5 e5 => ?_)
  have r_1 := (q_addN (lo := 1) (hi := 29) e4 rA2 rA3 (by decide)).2
  refine q_pS (pc := 6) [.int 1, .int v5] [] hG (c_J9_max_7cf53 τ σ 1 v5 hI) my_J9_max_7cf53 w262 w659 dX2_nextGreen_6 rfl rfl (Nat.le_of_ble_eq_true rfl) (by decide) (fun v6 p6 => ?_)
  have r_2 := (q_mulN (lo := 2) (hi := 58) e5 rl_2 r_1 (by decide)).2
  refine q_istore (pc := 9) [(4, .int v6), (0, .int x0), (1, .int x1), (2, .int x2), (3, .int x3)] hG dX2_nextGreen_9 (by decide) rfl ?_
  refine q_iload_n (pc := 11) hG dX2_nextGreen_11 2 rfl ?_
  have J22 : ∀ (p22_s0 : Int32), (q_r p22_s0 0 29) → q_O X 0 0 τ σ 22 [(0, .int x0), (2, .int x2), (4, .int v6)] [.int p22_s0] := by
    intro p22_s0 r22_s0
    refine q_istore (pc := 22) [(5, .int p22_s0), (0, .int x0), (2, .int x2), (4, .int v6)] hG dX2_nextGreen_22 (by decide) rfl ?_
    refine q_iload_n (pc := 24) hG dX2_nextGreen_24 1 rfl ?_
    refine q_iload (pc := 25) hG dX2_nextGreen_25 0 rfl ?_
    refine q_isub (pc := 27) hG dX2_nextGreen_27 (fun v27 e27 => ?_)
    refine q_iload (pc := 28) hG dX2_nextGreen_28 3 rfl ?_
    have r_3 := q_maxN (lo := 2) (hi := 58) p6.2.2 rl_1 r_2 (by decide)
    refine q_pS (pc := 30) [.int v27, .int v6] [] hG (c_J9_floorMod_7cf53 τ σ v27 v6 hI (q_r.mono r_3 (by decide))) my_J9_floorMod_7cf53 w664 w663 dX2_nextGreen_30 rfl rfl (Nat.le_of_ble_eq_true rfl) (by decide) (fun v30 p30 => ?_)
    refine q_istore (pc := 33) [(6, .int v30), (5, .int p22_s0), (0, .int x0), (2, .int x2), (4, .int v6)] hG dX2_nextGreen_33 (by decide) rfl ?_
    refine q_iload (pc := 35) hG dX2_nextGreen_35 0 rfl ?_
    refine q_iload_n (pc := 37) hG dX2_nextGreen_37 3 rfl ?_
    refine q_icmp_ge (pc := 38) hG 45 dX2_nextGreen_38 rfl ?_ ?_
    · intro c38
      refine q_iload_n (pc := 45) hG dX2_nextGreen_45 2 rfl ?_
      refine q_iload (pc := 46) hG dX2_nextGreen_46 4 rfl ?_
      refine q_iadd (pc := 48) hG dX2_nextGreen_48 (fun v48 e48 => ?_)
      refine q_iload (pc := 49) hG dX2_nextGreen_49 0 rfl ?_
      refine q_isub (pc := 51) hG dX2_nextGreen_51 (fun v51 e51 => ?_)
      exact q_irt hG hE dX2_nextGreen_52 ⟨rfl, (q_r_any v51)⟩
    intro c38
    refine q_iload_n (pc := 41) hG dX2_nextGreen_41 2 rfl ?_
    refine q_goto (pc := 42) 52 hG dX2_nextGreen_42 rfl ?_
    exact q_irt hG hE dX2_nextGreen_52 ⟨rfl, (q_r_any x0)⟩
  refine q_if_ne (pc := 12) hG 19 dX2_nextGreen_12 rfl ?_ ?_
  · intro c12
    refine q_iload_n (pc := 19) hG dX2_nextGreen_19 3 rfl ?_
    refine q_iload_n (pc := 20) hG dX2_nextGreen_20 4 rfl ?_
    refine q_iadd (pc := 21) hG dX2_nextGreen_21 (fun v21 e21 => ?_)
    rw [e21.trans e4.symm]
    refine q_lv [1, 3, 0] rfl ?_
    exact J22 v4 (q_r.mono r_1 (by decide))
  intro c12
  refine q_iconst (pc := 15) hG dX2_nextGreen_15 ki_0 ?_
  refine q_goto (pc := 16) 22 hG dX2_nextGreen_16 rfl ?_
  refine q_lv [1, 3, 0] rfl ?_
  exact J22 0 (q_r.mono rl_0 (by decide))
theorem dX2_waits_0 : decode cX2_waits 0 = .ok (.aload_n 0, 1) := by decide +kernel
theorem dX2_waits_1 : decode cX2_waits 1 = .ok (.getfield 22, 3) := by decide +kernel
theorem dX2_waits_4 : decode cX2_waits 4 = .ok (.iconst 0, 1) := by decide +kernel
theorem dX2_waits_5 : decode cX2_waits 5 = .ok (.iconst 0, 1) := by decide +kernel
theorem dX2_waits_6 : decode cX2_waits 6 = .ok (.iastore, 1) := by decide +kernel
theorem dX2_waits_7 : decode cX2_waits 7 = .ok (.aload_n 0, 1) := by decide +kernel
theorem dX2_waits_8 : decode cX2_waits 8 = .ok (.getfield 22, 3) := by decide +kernel
theorem dX2_waits_11 : decode cX2_waits 11 = .ok (.iconst 1, 1) := by decide +kernel
theorem dX2_waits_12 : decode cX2_waits 12 = .ok (.iconst 0, 1) := by decide +kernel
theorem dX2_waits_13 : decode cX2_waits 13 = .ok (.iastore, 1) := by decide +kernel
theorem dX2_waits_14 : decode cX2_waits 14 = .ok (.iconst 0, 1) := by decide +kernel
theorem dX2_waits_15 : decode cX2_waits 15 = .ok (.istore_n 3, 1) := by decide +kernel
theorem dX2_waits_16 : decode cX2_waits 16 = .ok (.iconst 0, 1) := by decide +kernel
theorem dX2_waits_17 : decode cX2_waits 17 = .ok (.istore 4, 2) := by decide +kernel
theorem dX2_waits_19 : decode cX2_waits 19 = .ok (.iload 4, 2) := by decide +kernel
theorem dX2_waits_21 : decode cX2_waits 21 = .ok (.aload_n 0, 1) := by decide +kernel
theorem dX2_waits_22 : decode cX2_waits 22 = .ok (.getfield 9, 3) := by decide +kernel
theorem dX2_waits_25 : decode cX2_waits 25 = .ok (.if_icmp .ge 76, 3) := by decide +kernel
theorem dX2_waits_28 : decode cX2_waits 28 = .ok (.aload_n 0, 1) := by decide +kernel
theorem dX2_waits_29 : decode cX2_waits 29 = .ok (.getfield 19, 3) := by decide +kernel
theorem dX2_waits_32 : decode cX2_waits 32 = .ok (.iload 4, 2) := by decide +kernel
theorem dX2_waits_34 : decode cX2_waits 34 = .ok (.iaload, 1) := by decide +kernel
theorem dX2_waits_35 : decode cX2_waits 35 = .ok (.ifCond .ne 7, 3) := by decide +kernel
theorem dX2_waits_38 : decode cX2_waits 38 = .ok (.iconst 0, 1) := by decide +kernel
theorem dX2_waits_39 : decode cX2_waits 39 = .ok (.goto 4, 3) := by decide +kernel
theorem dX2_waits_42 : decode cX2_waits 42 = .ok (.iconst 1, 1) := by decide +kernel
theorem dX2_waits_43 : decode cX2_waits 43 = .ok (.istore 5, 2) := by decide +kernel
theorem dX2_waits_45 : decode cX2_waits 45 = .ok (.aload_n 0, 1) := by decide +kernel
theorem dX2_waits_46 : decode cX2_waits 46 = .ok (.getfield 15, 3) := by decide +kernel
theorem dX2_waits_49 : decode cX2_waits 49 = .ok (.iload 4, 2) := by decide +kernel
theorem dX2_waits_51 : decode cX2_waits 51 = .ok (.iaload, 1) := by decide +kernel
theorem dX2_waits_52 : decode cX2_waits 52 = .ok (.aload_n 0, 1) := by decide +kernel
theorem dX2_waits_53 : decode cX2_waits 53 = .ok (.getfield 22, 3) := by decide +kernel
theorem dX2_waits_56 : decode cX2_waits 56 = .ok (.iload 5, 2) := by decide +kernel
theorem dX2_waits_58 : decode cX2_waits 58 = .ok (.iaload, 1) := by decide +kernel
theorem dX2_waits_59 : decode cX2_waits 59 = .ok (.invokestatic 33, 3) := by decide +kernel
theorem dX2_waits_62 : decode cX2_waits 62 = .ok (.iload 5, 2) := by decide +kernel
theorem dX2_waits_64 : decode cX2_waits 64 = .ok (.iload_n 1, 1) := by decide +kernel
theorem dX2_waits_65 : decode cX2_waits 65 = .ok (.iload_n 2, 1) := by decide +kernel
theorem dX2_waits_66 : decode cX2_waits 66 = .ok (.invokestatic 38, 3) := by decide +kernel
theorem dX2_waits_69 : decode cX2_waits 69 = .ok (.istore 6, 2) := by decide +kernel
theorem dX2_waits_71 : decode cX2_waits 71 = .ok (.aload_n 0, 1) := by decide +kernel
theorem dX2_waits_72 : decode cX2_waits 72 = .ok (.getfield 22, 3) := by decide +kernel
theorem dX2_waits_75 : decode cX2_waits 75 = .ok (.iload 5, 2) := by decide +kernel
theorem dX2_waits_77 : decode cX2_waits 77 = .ok (.iload 6, 2) := by decide +kernel
theorem dX2_waits_79 : decode cX2_waits 79 = .ok (.iconst 1, 1) := by decide +kernel
theorem dX2_waits_80 : decode cX2_waits 80 = .ok (.iadd, 1) := by decide +kernel
theorem dX2_waits_81 : decode cX2_waits 81 = .ok (.iastore, 1) := by decide +kernel
theorem dX2_waits_82 : decode cX2_waits 82 = .ok (.iload_n 3, 1) := by decide +kernel
theorem dX2_waits_83 : decode cX2_waits 83 = .ok (.iload 6, 2) := by decide +kernel
theorem dX2_waits_85 : decode cX2_waits 85 = .ok (.aload_n 0, 1) := by decide +kernel
theorem dX2_waits_86 : decode cX2_waits 86 = .ok (.getfield 15, 3) := by decide +kernel
theorem dX2_waits_89 : decode cX2_waits 89 = .ok (.iload 4, 2) := by decide +kernel
theorem dX2_waits_91 : decode cX2_waits 91 = .ok (.iaload, 1) := by decide +kernel
theorem dX2_waits_92 : decode cX2_waits 92 = .ok (.isub, 1) := by decide +kernel
theorem dX2_waits_93 : decode cX2_waits 93 = .ok (.iadd, 1) := by decide +kernel
theorem dX2_waits_94 : decode cX2_waits 94 = .ok (.istore_n 3, 1) := by decide +kernel
theorem dX2_waits_95 : decode cX2_waits 95 = .ok (.iinc 4 1, 3) := by decide +kernel
theorem dX2_waits_98 : decode cX2_waits 98 = .ok (.goto (-79), 3) := by decide +kernel
theorem dX2_waits_101 : decode cX2_waits 101 = .ok (.iload_n 3, 1) := by decide +kernel
theorem dX2_waits_102 : decode cX2_waits 102 = .ok (.ireturn, 1) := by decide +kernel
def md_X2_waits : List (Nat × Nat) := [(139, 0)]
set_option maxRecDepth 100000 in
set_option maxHeartbeats 4000000 in
theorem c_X2_waits {l : Launch} {D : q_D} (τ : q_T) (σ : q_V) (a0 : Nat) (x1 : Int32) (x2 : Int32) (hI : q_I τ σ) (tA0 : τ a0 = some (2, 1)) (rA1 : q_r x1 1 20) (rA2 : q_r x2 0 9) : q_Ci l D yX2_waits cX2_waits 7 (some .int) 2 48 τ σ [.ref a0, .int x1, .int x2] (fun r σ1 => q_S md_X2_waits τ σ σ1 ∧ (q_r r (-2147483648) 2147483647)) := by
  refine q_meti rfl (Nat.le_of_ble_eq_true rfl) (fun X hG hE => ?_)
  show q_O X 0 0 τ σ 0 [(0, .ref a0), (1, .int x1), (2, .int x2)] []
  have hS0 : q_S md_X2_waits τ σ σ := q_S.rf hI
  refine q_aload_n (pc := 0) hG dX2_waits_0 0 rfl ?_
  refine q_getR (pc := 1) (k2 := 139) (n2 := 2) hG fl_X2_22 dX2_waits_1 hI tA0 ff_2_3 (fun b1 f1 T1 => ?_)
  refine q_iconst (pc := 4) hG dX2_waits_4 ki_0 ?_
  refine q_iconst (pc := 5) hG dX2_waits_5 ki_0 ?_
  refine q_iast (pc := 6) hG dX2_waits_6 hS0 ai_139 T1 (q_ix rl_0 (by decide)) rl_0 (by decide) rfl (fun s6 u6 w6 => ?_)
  have m6 : s6 b1 (0 : Int32).toInt.toNat = .int 0 := by rw [u6]; exact q_up_same
  refine q_aload_n (pc := 7) hG dX2_waits_7 0 rfl ?_
  refine q_getV (pc := 8) (v := .ref b1) hG fl_X2_22 dX2_waits_8 tA0 (w6.same tA0 rfl f1) ?_
  refine q_iconst (pc := 11) hG dX2_waits_11 ki_1 ?_
  refine q_iconst (pc := 12) hG dX2_waits_12 ki_0 ?_
  refine q_iast (pc := 13) hG dX2_waits_13 w6 ai_139 T1 (q_ix rl_1 (by decide)) rl_0 (by decide) rfl (fun s13 u13 w13 => ?_)
  have m13 : s13 b1 (1 : Int32).toInt.toNat = .int 0 := by rw [u13]; exact q_up_same
  refine q_iconst (pc := 14) hG dX2_waits_14 ki_0 ?_
  refine q_istore_n (pc := 15) [(3, .int 0), (0, .ref a0), (1, .int x1), (2, .int x2)] hG dX2_waits_15 (by decide) rfl ?_
  refine q_iconst (pc := 16) hG dX2_waits_16 ki_0 ?_
  refine q_istore (pc := 17) [(4, .int 0), (3, .int 0), (0, .ref a0), (1, .int x1), (2, .int x2)] hG dX2_waits_17 (by decide) rfl ?_
  have J19 : ∀ (n19 : Nat) (p19_3 : Int32) (p19_4 : Int32) (σ19 : q_V), (q_r p19_4 0 20) → (q_S md_X2_waits τ σ σ19) → ((20 - p19_4.toInt).toNat < n19) → q_O X 0 0 τ σ19 19 [(0, .ref a0), (1, .int x1), (2, .int x2), (3, .int p19_3), (4, .int p19_4)] [] := by
    intro n19
    induction n19 with
    | zero => intro p19_3 p19_4 σ19 r19_4 hS19 hm19; exact absurd hm19 (Nat.not_lt_zero _)
    | succ n19 ih19 =>
      intro p19_3 p19_4 σ19 r19_4 hS19 hm19
      refine q_iload (pc := 19) hG dX2_waits_19 4 rfl ?_
      refine q_aload_n (pc := 21) hG dX2_waits_21 0 rfl ?_
      refine q_getI (pc := 22) hG fl_X2_9 dX2_waits_22 hS19.1 tA0 ff_2_0 (fun v22 f22 g22 => ?_)
      have f_1 := (hS19.2 _ _ _ _ tA0 rfl).symm.trans f22
      refine q_icmp_ge (pc := 25) hG 101 dX2_waits_25 rfl ?_ ?_
      · intro c25
        refine q_iload_n (pc := 101) hG dX2_waits_101 3 rfl ?_
        exact q_irt hG hE dX2_waits_102 ⟨hS19, (q_r_any p19_3)⟩
      intro c25
      refine q_aload_n (pc := 28) hG dX2_waits_28 0 rfl ?_
      refine q_getR (pc := 29) (k2 := 138) (n2 := 20) hG fl_X2_19 dX2_waits_29 hS19.1 tA0 ff_2_2 (fun b29 f29 T29 => ?_)
      have f_2 := (hS19.2 _ _ _ _ tA0 rfl).symm.trans f29
      refine q_iload (pc := 32) hG dX2_waits_32 4 rfl ?_
      have r_3 := q_rlt r19_4 g22 c25 19 (by decide)
      refine q_iald (pc := 34) hG dX2_waits_34 hS19.1 ai_138 T29 (q_ix r_3 (by decide)) (fun v34 f34 g34 => ?_)
      have f_4 := (hS19.2 _ _ _ _ T29 rfl).symm.trans f34
      have J43 : ∀ (p43_s0 : Int32), (q_r p43_s0 0 1) → q_O X 0 0 τ σ19 43 [(0, .ref a0), (1, .int x1), (2, .int x2), (3, .int p19_3), (4, .int p19_4)] [.int p43_s0] := by
        intro p43_s0 r43_s0
        refine q_istore (pc := 43) [(5, .int p43_s0), (0, .ref a0), (1, .int x1), (2, .int x2), (3, .int p19_3), (4, .int p19_4)] hG dX2_waits_43 (by decide) rfl ?_
        refine q_aload_n (pc := 45) hG dX2_waits_45 1 rfl ?_
        refine q_getR (pc := 46) (k2 := 137) (n2 := 20) hG fl_X2_15 dX2_waits_46 hS19.1 tA0 ff_2_1 (fun b46 f46 T46 => ?_)
        have f_5 := (hS19.2 _ _ _ _ tA0 rfl).symm.trans f46
        refine q_iload (pc := 49) hG dX2_waits_49 5 rfl ?_
        refine q_iald (pc := 51) hG dX2_waits_51 hS19.1 ai_137 T46 (q_ix r_3 (by decide)) (fun v51 f51 g51 => ?_)
        have f_6 := (hS19.2 _ _ _ _ T46 rfl).symm.trans f51
        refine q_aload_n (pc := 52) hG dX2_waits_52 1 rfl ?_
        refine q_getV (pc := 53) (v := .ref b1) hG fl_X2_22 dX2_waits_53 tA0 (hS19.same tA0 rfl f1) ?_
        refine q_iload (pc := 56) hG dX2_waits_56 0 rfl ?_
        refine q_iald (pc := 58) hG dX2_waits_58 hS19.1 ai_139 T1 (q_ix r43_s0 (by decide)) (fun v58 f58 g58 => ?_)
        refine q_pS (pc := 59) [.int v51, .int v58] [] hG (c_J9_max_7cf53 τ σ19 v51 v58 hS19.1) my_J9_max_7cf53 w262 w659 dX2_waits_59 rfl rfl (Nat.le_of_ble_eq_true rfl) (by decide) (fun v59 p59 => ?_)
        refine q_iload (pc := 62) hG dX2_waits_62 0 rfl ?_
        refine q_iload_n (pc := 64) hG dX2_waits_64 2 rfl ?_
        refine q_iload_n (pc := 65) hG dX2_waits_65 3 rfl ?_
        refine q_pS (pc := 66) [.int v59, .int p43_s0, .int x1, .int x2] [] hG (c_X2_nextGreen τ σ19 v59 p43_s0 x1 x2 hS19.1 r43_s0 rA1 rA2) my_X2_nextGreen w661 w660 dX2_waits_66 rfl rfl (Nat.le_of_ble_eq_true rfl) (by decide) (fun v66 p66 => ?_)
        refine q_istore (pc := 69) [(6, .int v66), (5, .int p43_s0), (0, .ref a0), (1, .int x1), (2, .int x2), (3, .int p19_3), (4, .int p19_4)] hG dX2_waits_69 (by decide) rfl ?_
        refine q_aload_n (pc := 71) hG dX2_waits_71 2 rfl ?_
        refine q_getV (pc := 72) (v := .ref b1) hG fl_X2_22 dX2_waits_72 tA0 (hS19.same tA0 rfl f1) ?_
        refine q_iload (pc := 75) hG dX2_waits_75 1 rfl ?_
        refine q_iload (pc := 77) hG dX2_waits_77 0 rfl ?_
        refine q_iconst (pc := 79) hG dX2_waits_79 ki_1 ?_
        refine q_iadd (pc := 80) hG dX2_waits_80 (fun v80 e80 => ?_)
        refine q_iast (pc := 81) hG dX2_waits_81 hS19 ai_139 T1 (q_ix r43_s0 (by decide)) (q_r_any v80) (by decide) rfl (fun s81 u81 w81 => ?_)
        have m81 : s81 b1 p43_s0.toInt.toNat = .int v80 := by rw [u81]; exact q_up_same
        refine q_iload_n (pc := 82) hG dX2_waits_82 5 rfl ?_
        refine q_iload (pc := 83) hG dX2_waits_83 0 rfl ?_
        refine q_aload_n (pc := 85) hG dX2_waits_85 2 rfl ?_
        refine q_getV (pc := 86) (v := .ref b46) hG fl_X2_15 dX2_waits_86 tA0 (w81.same tA0 rfl f_5) ?_
        refine q_iload (pc := 89) hG dX2_waits_89 6 rfl ?_
        refine q_ialdV (pc := 91) (v := .int v51) hG dX2_waits_91 T46 (by decide) (by decide) (q_ix r_3 (by decide)) (w81.same T46 rfl f_6) ?_
        refine q_isub (pc := 92) hG dX2_waits_92 (fun v92 e92 => ?_)
        refine q_iadd (pc := 93) hG dX2_waits_93 (fun v93 e93 => ?_)
        refine q_istore_n (pc := 94) [(3, .int v93), (6, .int v66), (5, .int p43_s0), (0, .ref a0), (1, .int x1), (2, .int x2), (4, .int p19_4)] hG dX2_waits_94 (by decide) rfl ?_
        obtain ⟨v95, e95⟩ : ∃ z : Int32, z = p19_4 + Int32.ofInt 1 := ⟨_, rfl⟩
        have h95 := q_incN (lo := 1) (hi := 20) r_3 (by decide) (by decide) e95
        refine q_iinc (pc := 95) [(4, .int v95), (3, .int v93), (6, .int v66), (5, .int p43_s0), (0, .ref a0), (1, .int x1), (2, .int x2)] hG dX2_waits_95 6 rfl e95 (by decide) rfl ?_
        refine q_goto (pc := 98) 19 hG dX2_waits_98 rfl ?_
        refine q_lv [4, 5, 6, 1, 0] rfl ?_
        have r_7 := q_rgt g22 r19_4 c25 1 (by decide)
        exact ih19 v93 v95 s81 (q_r.mono h95.2 (by decide)) w81 (q_measU hm19 (by have o0 := c25; have o1 := h95.1; have o2 := r_3; have o3 := r_7; have o4 := h95.2; unfold q_r at o2 o3 o4; omega) (h95.2).2)
      refine q_if_ne (pc := 35) hG 42 dX2_waits_35 rfl ?_ ?_
      · intro c35
        refine q_iconst (pc := 42) hG dX2_waits_42 ki_1 ?_
        refine q_lv [0, 1, 2, 3, 4] rfl ?_
        exact J43 1 (q_r.mono rl_1 (by decide))
      intro c35
      refine q_iconst (pc := 38) hG dX2_waits_38 ki_0 ?_
      refine q_goto (pc := 39) 43 hG dX2_waits_39 rfl ?_
      refine q_lv [0, 1, 2, 3, 4] rfl ?_
      exact J43 0 (q_r.mono rl_0 (by decide))
  refine q_lv [2, 3, 4, 1, 0] rfl ?_
  exact J19 _ 0 0 s13 (q_r.mono rl_0 (by decide)) w13 (Nat.lt_succ_self _)
theorem dX2_bestGreen_0 : decode cX2_bestGreen 0 = .ok (.iconst 1, 1) := by decide +kernel
theorem dX2_bestGreen_1 : decode cX2_bestGreen 1 = .ok (.istore_n 2, 1) := by decide +kernel
theorem dX2_bestGreen_2 : decode cX2_bestGreen 2 = .ok (.aload_n 0, 1) := by decide +kernel
theorem dX2_bestGreen_3 : decode cX2_bestGreen 3 = .ok (.iconst 1, 1) := by decide +kernel
theorem dX2_bestGreen_4 : decode cX2_bestGreen 4 = .ok (.iload_n 1, 1) := by decide +kernel
theorem dX2_bestGreen_5 : decode cX2_bestGreen 5 = .ok (.invokevirtual 29, 3) := by decide +kernel
theorem dX2_bestGreen_8 : decode cX2_bestGreen 8 = .ok (.istore_n 3, 1) := by decide +kernel
theorem dX2_bestGreen_9 : decode cX2_bestGreen 9 = .ok (.iconst 2, 1) := by decide +kernel
theorem dX2_bestGreen_10 : decode cX2_bestGreen 10 = .ok (.istore 4, 2) := by decide +kernel
theorem dX2_bestGreen_12 : decode cX2_bestGreen 12 = .ok (.iload 4, 2) := by decide +kernel
theorem dX2_bestGreen_14 : decode cX2_bestGreen 14 = .ok (.bipush 20, 2) := by decide +kernel
theorem dX2_bestGreen_16 : decode cX2_bestGreen 16 = .ok (.if_icmp .gt 30, 3) := by decide +kernel
theorem dX2_bestGreen_19 : decode cX2_bestGreen 19 = .ok (.aload_n 0, 1) := by decide +kernel
theorem dX2_bestGreen_20 : decode cX2_bestGreen 20 = .ok (.iload 4, 2) := by decide +kernel
theorem dX2_bestGreen_22 : decode cX2_bestGreen 22 = .ok (.iload_n 1, 1) := by decide +kernel
theorem dX2_bestGreen_23 : decode cX2_bestGreen 23 = .ok (.invokevirtual 29, 3) := by decide +kernel
theorem dX2_bestGreen_26 : decode cX2_bestGreen 26 = .ok (.istore 5, 2) := by decide +kernel
theorem dX2_bestGreen_28 : decode cX2_bestGreen 28 = .ok (.iload 5, 2) := by decide +kernel
theorem dX2_bestGreen_30 : decode cX2_bestGreen 30 = .ok (.iload_n 3, 1) := by decide +kernel
theorem dX2_bestGreen_31 : decode cX2_bestGreen 31 = .ok (.if_icmp .ge 9, 3) := by decide +kernel
theorem dX2_bestGreen_34 : decode cX2_bestGreen 34 = .ok (.iload 4, 2) := by decide +kernel
theorem dX2_bestGreen_36 : decode cX2_bestGreen 36 = .ok (.istore_n 2, 1) := by decide +kernel
theorem dX2_bestGreen_37 : decode cX2_bestGreen 37 = .ok (.iload 5, 2) := by decide +kernel
theorem dX2_bestGreen_39 : decode cX2_bestGreen 39 = .ok (.istore_n 3, 1) := by decide +kernel
theorem dX2_bestGreen_40 : decode cX2_bestGreen 40 = .ok (.iinc 4 1, 3) := by decide +kernel
theorem dX2_bestGreen_43 : decode cX2_bestGreen 43 = .ok (.goto (-31), 3) := by decide +kernel
theorem dX2_bestGreen_46 : decode cX2_bestGreen 46 = .ok (.iload_n 2, 1) := by decide +kernel
theorem dX2_bestGreen_47 : decode cX2_bestGreen 47 = .ok (.ireturn, 1) := by decide +kernel
def md_X2_bestGreen : List (Nat × Nat) := [(139, 0)]
set_option maxRecDepth 100000 in
set_option maxHeartbeats 4000000 in
theorem c_X2_bestGreen {l : Launch} {D : q_D} (τ : q_T) (σ : q_V) (a0 : Nat) (x1 : Int32) (hI : q_I τ σ) (tA0 : τ a0 = some (2, 1)) (rA1 : q_r x1 0 9) : q_Ci l D yX2_bestGreen cX2_bestGreen 6 (some .int) 3 74 τ σ [.ref a0, .int x1] (fun r σ1 => q_S md_X2_bestGreen τ σ σ1 ∧ (q_r r 1 20)) := by
  refine q_meti rfl (Nat.le_of_ble_eq_true rfl) (fun X hG hE => ?_)
  show q_O X 0 0 τ σ 0 [(0, .ref a0), (1, .int x1)] []
  have hS0 : q_S md_X2_bestGreen τ σ σ := q_S.rf hI
  refine q_iconst (pc := 0) hG dX2_bestGreen_0 ki_1 ?_
  refine q_istore_n (pc := 1) [(2, .int 1), (0, .ref a0), (1, .int x1)] hG dX2_bestGreen_1 (by decide) rfl ?_
  refine q_aload_n (pc := 2) hG dX2_bestGreen_2 1 rfl ?_
  refine q_iconst (pc := 3) hG dX2_bestGreen_3 ki_1 ?_
  refine q_iload_n (pc := 4) hG dX2_bestGreen_4 2 rfl ?_
  refine q_cVi (pc := 5) [.int 1, .int x1] [] hG (c_X2_waits τ σ a0 1 x1 hI tA0 (q_r.mono rl_1 (by decide)) rA1) my_X2_waits mv_X2_waits w670 dX2_bestGreen_5 tA0 (by decide) rfl rfl (Nat.le_of_ble_eq_true rfl) (by decide) (fun v5 s5 p5 => ?_)
  have w5 := hS0.trans p5.1 rfl
  refine q_istore_n (pc := 8) [(3, .int v5), (2, .int 1), (0, .ref a0), (1, .int x1)] hG dX2_bestGreen_8 (by decide) rfl ?_
  refine q_iconst (pc := 9) hG dX2_bestGreen_9 ki_2 ?_
  refine q_istore (pc := 10) [(4, .int 2), (3, .int v5), (2, .int 1), (0, .ref a0), (1, .int x1)] hG dX2_bestGreen_10 (by decide) rfl ?_
  have J12 : ∀ (n12 : Nat) (p12_2 : Int32) (p12_3 : Int32) (p12_4 : Int32) (σ12 : q_V), (q_r p12_2 1 20) → (q_r p12_4 2 21) → (q_S md_X2_bestGreen τ σ σ12) → ((21 - p12_4.toInt).toNat < n12) → q_O X 0 0 τ σ12 12 [(0, .ref a0), (1, .int x1), (2, .int p12_2), (3, .int p12_3), (4, .int p12_4)] [] := by
    intro n12
    induction n12 with
    | zero => intro p12_2 p12_3 p12_4 σ12 r12_2 r12_4 hS12 hm12; exact absurd hm12 (Nat.not_lt_zero _)
    | succ n12 ih12 =>
      intro p12_2 p12_3 p12_4 σ12 r12_2 r12_4 hS12 hm12
      refine q_iload (pc := 12) hG dX2_bestGreen_12 4 rfl ?_
      refine q_bipush (pc := 14) hG dX2_bestGreen_14 kb_20 ?_
      refine q_icmp_gt (pc := 16) hG 46 dX2_bestGreen_16 rfl ?_ ?_
      · intro c16
        refine q_iload_n (pc := 46) hG dX2_bestGreen_46 2 rfl ?_
        exact q_irt hG hE dX2_bestGreen_47 ⟨hS12, r12_2⟩
      intro c16
      refine q_aload_n (pc := 19) hG dX2_bestGreen_19 0 rfl ?_
      refine q_iload (pc := 20) hG dX2_bestGreen_20 4 rfl ?_
      refine q_iload_n (pc := 22) hG dX2_bestGreen_22 1 rfl ?_
      have r_1 := q_rle r12_4 rl_20 c16
      refine q_cVi (pc := 23) [.int p12_4, .int x1] [] hG (c_X2_waits τ σ12 a0 p12_4 x1 hS12.1 tA0 (q_r.mono r_1 (by decide)) rA1) my_X2_waits mv_X2_waits w670 dX2_bestGreen_23 tA0 (by decide) rfl rfl (Nat.le_of_ble_eq_true rfl) (by decide) (fun v23 s23 p23 => ?_)
      have w23 := hS12.trans p23.1 rfl
      refine q_istore (pc := 26) [(5, .int v23), (0, .ref a0), (1, .int x1), (2, .int p12_2), (3, .int p12_3), (4, .int p12_4)] hG dX2_bestGreen_26 (by decide) rfl ?_
      refine q_iload (pc := 28) hG dX2_bestGreen_28 0 rfl ?_
      refine q_iload_n (pc := 30) hG dX2_bestGreen_30 4 rfl ?_
      have J40 : ∀ (p40_2 : Int32) (p40_3 : Int32), (q_r p40_2 1 20) → q_O X 0 0 τ s23 40 [(0, .ref a0), (1, .int x1), (2, .int p40_2), (3, .int p40_3), (4, .int p12_4)] [] := by
        intro p40_2 p40_3 r40_2
        obtain ⟨v40, e40⟩ : ∃ z : Int32, z = p12_4 + Int32.ofInt 1 := ⟨_, rfl⟩
        have h40 := q_incN (lo := 3) (hi := 21) r_1 (by decide) (by decide) e40
        refine q_iinc (pc := 40) [(4, .int v40), (0, .ref a0), (1, .int x1), (2, .int p40_2), (3, .int p40_3)] hG dX2_bestGreen_40 4 rfl e40 (by decide) rfl ?_
        refine q_goto (pc := 43) 12 hG dX2_bestGreen_43 rfl ?_
        refine q_lv [1, 2, 3, 4, 0] rfl ?_
        exact ih12 p40_2 p40_3 v40 s23 r40_2 (q_r.mono h40.2 (by decide)) w23 (q_measU hm12 (by have o0 := c16; have o1 := h40.1; have o2 := r_1; have o3 := h40.2; have l4 := tl_20; unfold q_r at o2 o3; omega) (h40.2).2)
      refine q_icmp_ge (pc := 31) hG 40 dX2_bestGreen_31 rfl ?_ ?_
      · intro c31
        refine q_lv [1, 2, 3, 4, 5] rfl ?_
        exact J40 p12_2 p12_3 r12_2
      intro c31
      refine q_iload (pc := 34) hG dX2_bestGreen_34 5 rfl ?_
      refine q_istore_n (pc := 36) [(2, .int p12_4), (5, .int v23), (0, .ref a0), (1, .int x1), (3, .int p12_3), (4, .int p12_4)] hG dX2_bestGreen_36 (by decide) rfl ?_
      refine q_iload (pc := 37) hG dX2_bestGreen_37 1 rfl ?_
      refine q_istore_n (pc := 39) [(3, .int v23), (2, .int p12_4), (5, .int v23), (0, .ref a0), (1, .int x1), (4, .int p12_4)] hG dX2_bestGreen_39 (by decide) rfl ?_
      refine q_lv [3, 4, 1, 0, 5] rfl ?_
      exact J40 p12_4 v23 (q_r.mono r_1 (by decide))
  refine q_lv [3, 4, 2, 1, 0] rfl ?_
  exact J12 _ 1 v5 2 s5 (q_r.mono rl_1 (by decide)) (q_r.mono rl_2 (by decide)) w5 (Nat.lt_succ_self _)
theorem dX2_take_0 : decode cX2_take 0 = .ok (.aload_n 0, 1) := by decide +kernel
theorem dX2_take_1 : decode cX2_take 1 = .ok (.iconst 0, 1) := by decide +kernel
theorem dX2_take_2 : decode cX2_take 2 = .ok (.putfield 9, 3) := by decide +kernel
theorem dX2_take_5 : decode cX2_take 5 = .ok (.iconst 0, 1) := by decide +kernel
theorem dX2_take_6 : decode cX2_take 6 = .ok (.istore_n 3, 1) := by decide +kernel
theorem dX2_take_7 : decode cX2_take 7 = .ok (.iload_n 3, 1) := by decide +kernel
theorem dX2_take_8 : decode cX2_take 8 = .ok (.iload_n 2, 1) := by decide +kernel
theorem dX2_take_9 : decode cX2_take 9 = .ok (.if_icmp .ge 96, 3) := by decide +kernel
theorem dX2_take_12 : decode cX2_take 12 = .ok (.iload_n 3, 1) := by decide +kernel
theorem dX2_take_13 : decode cX2_take 13 = .ok (.bipush 20, 2) := by decide +kernel
theorem dX2_take_15 : decode cX2_take 15 = .ok (.if_icmp .ge 90, 3) := by decide +kernel
theorem dX2_take_18 : decode cX2_take 18 = .ok (.iconst 2, 1) := by decide +kernel
theorem dX2_take_19 : decode cX2_take 19 = .ok (.iload_n 3, 1) := by decide +kernel
theorem dX2_take_20 : decode cX2_take 20 = .ok (.imul, 1) := by decide +kernel
theorem dX2_take_21 : decode cX2_take 21 = .ok (.iconst 1, 1) := by decide +kernel
theorem dX2_take_22 : decode cX2_take 22 = .ok (.iadd, 1) := by decide +kernel
theorem dX2_take_23 : decode cX2_take 23 = .ok (.aload_n 1, 1) := by decide +kernel
theorem dX2_take_24 : decode cX2_take 24 = .ok (.arraylength, 1) := by decide +kernel
theorem dX2_take_25 : decode cX2_take 25 = .ok (.if_icmp .ge 80, 3) := by decide +kernel
theorem dX2_take_28 : decode cX2_take 28 = .ok (.aload_n 0, 1) := by decide +kernel
theorem dX2_take_29 : decode cX2_take 29 = .ok (.getfield 15, 3) := by decide +kernel
theorem dX2_take_32 : decode cX2_take 32 = .ok (.iload_n 3, 1) := by decide +kernel
theorem dX2_take_33 : decode cX2_take 33 = .ok (.aload_n 1, 1) := by decide +kernel
theorem dX2_take_34 : decode cX2_take 34 = .ok (.iconst 2, 1) := by decide +kernel
theorem dX2_take_35 : decode cX2_take 35 = .ok (.iload_n 3, 1) := by decide +kernel
theorem dX2_take_36 : decode cX2_take 36 = .ok (.imul, 1) := by decide +kernel
theorem dX2_take_37 : decode cX2_take 37 = .ok (.iaload, 1) := by decide +kernel
theorem dX2_take_38 : decode cX2_take 38 = .ok (.iastore, 1) := by decide +kernel
theorem dX2_take_39 : decode cX2_take 39 = .ok (.aload_n 0, 1) := by decide +kernel
theorem dX2_take_40 : decode cX2_take 40 = .ok (.getfield 19, 3) := by decide +kernel
theorem dX2_take_43 : decode cX2_take 43 = .ok (.iload_n 3, 1) := by decide +kernel
theorem dX2_take_44 : decode cX2_take 44 = .ok (.aload_n 1, 1) := by decide +kernel
theorem dX2_take_45 : decode cX2_take 45 = .ok (.iconst 2, 1) := by decide +kernel
theorem dX2_take_46 : decode cX2_take 46 = .ok (.iload_n 3, 1) := by decide +kernel
theorem dX2_take_47 : decode cX2_take 47 = .ok (.imul, 1) := by decide +kernel
theorem dX2_take_48 : decode cX2_take 48 = .ok (.iconst 1, 1) := by decide +kernel
theorem dX2_take_49 : decode cX2_take 49 = .ok (.iadd, 1) := by decide +kernel
theorem dX2_take_50 : decode cX2_take 50 = .ok (.iaload, 1) := by decide +kernel
theorem dX2_take_51 : decode cX2_take 51 = .ok (.iastore, 1) := by decide +kernel
theorem dX2_take_52 : decode cX2_take 52 = .ok (.aload_n 0, 1) := by decide +kernel
theorem dX2_take_53 : decode cX2_take 53 = .ok (.getfield 19, 3) := by decide +kernel
theorem dX2_take_56 : decode cX2_take 56 = .ok (.iload_n 3, 1) := by decide +kernel
theorem dX2_take_57 : decode cX2_take 57 = .ok (.iaload, 1) := by decide +kernel
theorem dX2_take_58 : decode cX2_take 58 = .ok (.iconst 0, 1) := by decide +kernel
theorem dX2_take_59 : decode cX2_take 59 = .ok (.iconst 1, 1) := by decide +kernel
theorem dX2_take_60 : decode cX2_take 60 = .ok (.invokestatic 25, 3) := by decide +kernel
theorem dX2_take_63 : decode cX2_take 63 = .ok (.ifCond .eq 24, 3) := by decide +kernel
theorem dX2_take_66 : decode cX2_take 66 = .ok (.iload_n 3, 1) := by decide +kernel
theorem dX2_take_67 : decode cX2_take 67 = .ok (.ifCond .le 22, 3) := by decide +kernel
theorem dX2_take_70 : decode cX2_take 70 = .ok (.aload_n 0, 1) := by decide +kernel
theorem dX2_take_71 : decode cX2_take 71 = .ok (.getfield 15, 3) := by decide +kernel
theorem dX2_take_74 : decode cX2_take 74 = .ok (.iload_n 3, 1) := by decide +kernel
theorem dX2_take_75 : decode cX2_take 75 = .ok (.iaload, 1) := by decide +kernel
theorem dX2_take_76 : decode cX2_take 76 = .ok (.aload_n 0, 1) := by decide +kernel
theorem dX2_take_77 : decode cX2_take 77 = .ok (.getfield 15, 3) := by decide +kernel
theorem dX2_take_80 : decode cX2_take 80 = .ok (.iload_n 3, 1) := by decide +kernel
theorem dX2_take_81 : decode cX2_take 81 = .ok (.iconst 1, 1) := by decide +kernel
theorem dX2_take_82 : decode cX2_take 82 = .ok (.isub, 1) := by decide +kernel
theorem dX2_take_83 : decode cX2_take 83 = .ok (.iaload, 1) := by decide +kernel
theorem dX2_take_84 : decode cX2_take 84 = .ok (.if_icmp .ge 5, 3) := by decide +kernel
theorem dX2_take_87 : decode cX2_take 87 = .ok (.iconst 0, 1) := by decide +kernel
theorem dX2_take_88 : decode cX2_take 88 = .ok (.ireturn, 1) := by decide +kernel
theorem dX2_take_89 : decode cX2_take 89 = .ok (.aload_n 0, 1) := by decide +kernel
theorem dX2_take_90 : decode cX2_take 90 = .ok (.dup, 1) := by decide +kernel
theorem dX2_take_91 : decode cX2_take 91 = .ok (.getfield 9, 3) := by decide +kernel
theorem dX2_take_94 : decode cX2_take 94 = .ok (.iconst 1, 1) := by decide +kernel
theorem dX2_take_95 : decode cX2_take 95 = .ok (.iadd, 1) := by decide +kernel
theorem dX2_take_96 : decode cX2_take 96 = .ok (.putfield 9, 3) := by decide +kernel
theorem dX2_take_99 : decode cX2_take 99 = .ok (.iinc 3 1, 3) := by decide +kernel
theorem dX2_take_102 : decode cX2_take 102 = .ok (.goto (-95), 3) := by decide +kernel
theorem dX2_take_105 : decode cX2_take 105 = .ok (.iconst 1, 1) := by decide +kernel
theorem dX2_take_106 : decode cX2_take 106 = .ok (.ireturn, 1) := by decide +kernel
def md_X2_take : List (Nat × Nat) := [(2, 0), (137, 0), (138, 0)]
set_option maxRecDepth 100000 in
set_option maxHeartbeats 4000000 in
theorem c_X2_take {l : Launch} {D : q_D} (τ : q_T) (σ : q_V) (a0 : Nat) (a1 : Nat) (x2 : Int32) (hI : q_I τ σ) (tA0 : τ a0 = some (2, 1)) (tA1 : τ a1 = some (110, 260)) : q_Ci l D yX2_take cX2_take 4 (some .boolean) 1 22 τ σ [.ref a0, .ref a1, .int x2] (fun r σ1 => q_S md_X2_take τ σ σ1 ∧ (q_r r 0 1)) := by
  refine q_meti rfl (Nat.le_of_ble_eq_true rfl) (fun X hG hE => ?_)
  show q_O X 0 0 τ σ 0 [(0, .ref a0), (1, .ref a1), (2, .int x2)] []
  have hS0 : q_S md_X2_take τ σ σ := q_S.rf hI
  refine q_aload_n (pc := 0) hG dX2_take_0 0 rfl ?_
  refine q_iconst (pc := 1) hG dX2_take_1 ki_0 ?_
  refine q_putI (pc := 2) hG fl_X2_9 dX2_take_2 hS0 tA0 ff_2_0 rl_0 (by decide) rfl (fun s2 u2 w2 => ?_)
  have m2 : s2 a0 0 = .int 0 := by rw [u2]; exact q_up_same
  refine q_iconst (pc := 5) hG dX2_take_5 ki_0 ?_
  refine q_istore_n (pc := 6) [(3, .int 0), (0, .ref a0), (1, .ref a1), (2, .int x2)] hG dX2_take_6 (by decide) rfl ?_
  have J7 : ∀ (n7 : Nat) (p7_3 : Int32) (σ7 : q_V) (F7 : Int32), (q_r p7_3 0 20) → (q_S md_X2_take τ σ σ7) → (σ7 a0 0 = .int F7 ∧ q_r F7 0 20) → (F7.toInt = p7_3.toInt) → ((20 - p7_3.toInt).toNat < n7) → q_O X 0 0 τ σ7 7 [(0, .ref a0), (1, .ref a1), (2, .int x2), (3, .int p7_3)] [] := by
    intro n7
    induction n7 with
    | zero => intro p7_3 σ7 F7 r7_3 hS7 iF7 iR7 hm7; exact absurd hm7 (Nat.not_lt_zero _)
    | succ n7 ih7 =>
      intro p7_3 σ7 F7 r7_3 hS7 iF7 iR7 hm7
      refine q_iload_n (pc := 7) hG dX2_take_7 3 rfl ?_
      refine q_iload_n (pc := 8) hG dX2_take_8 2 rfl ?_
      refine q_icmp_ge (pc := 9) hG 105 dX2_take_9 rfl ?_ ?_
      · intro c9
        refine q_iconst (pc := 105) hG dX2_take_105 ki_1 ?_
        exact q_zrt hG hE dX2_take_106 (q_r.mono rl_1 (by decide)) ⟨hS7, (q_r.mono rl_1 (by decide))⟩
      intro c9
      refine q_iload_n (pc := 12) hG dX2_take_12 3 rfl ?_
      refine q_bipush (pc := 13) hG dX2_take_13 kb_20 ?_
      refine q_icmp_ge (pc := 15) hG 105 dX2_take_15 rfl ?_ ?_
      · intro c15
        refine q_iconst (pc := 105) hG dX2_take_105 ki_1 ?_
        exact q_zrt hG hE dX2_take_106 (q_r.mono rl_1 (by decide)) ⟨hS7, (q_r.mono rl_1 (by decide))⟩
      intro c15
      refine q_iconst (pc := 18) hG dX2_take_18 ki_2 ?_
      refine q_iload_n (pc := 19) hG dX2_take_19 3 rfl ?_
      refine q_imul (pc := 20) hG dX2_take_20 (fun v20 e20 => ?_)
      have r_1 := q_rlt r7_3 rl_20 c15 19 (by decide)
      refine q_iconst (pc := 21) hG dX2_take_21 ki_1 ?_
      refine q_iadd (pc := 22) hG dX2_take_22 (fun v22 e22 => ?_)
      have r_2 := (q_mulN (lo := 0) (hi := 38) e20 rl_2 r_1 (by decide)).2
      refine q_aload_n (pc := 23) hG dX2_take_23 1 rfl ?_
      refine q_alen (pc := 24) (v := 260) hG dX2_take_24 tA1 (by decide) (by decide) ?_
      refine q_icmp_ge (pc := 25) hG 105 dX2_take_25 rfl ?_ ?_
      · intro c25
        have r_3 := (q_addN (lo := 1) (hi := 39) e22 r_2 rl_1 (by decide)).2
        exact absurd c25 (by have l0 := tl_260; have q0 := r_3; unfold q_r at q0; omega)
      intro c25
      have r_4 := (q_addN (lo := 1) (hi := 39) e22 r_2 rl_1 (by decide)).2
      refine q_aload_n (pc := 28) hG dX2_take_28 0 rfl ?_
      refine q_getR (pc := 29) (k2 := 137) (n2 := 20) hG fl_X2_15 dX2_take_29 hS7.1 tA0 ff_2_1 (fun b29 f29 T29 => ?_)
      have f_5 := (hS7.2 _ _ _ _ tA0 rfl).symm.trans f29
      refine q_iload_n (pc := 32) hG dX2_take_32 3 rfl ?_
      refine q_aload_n (pc := 33) hG dX2_take_33 1 rfl ?_
      refine q_iconst (pc := 34) hG dX2_take_34 ki_2 ?_
      refine q_iload_n (pc := 35) hG dX2_take_35 3 rfl ?_
      refine q_imul (pc := 36) hG dX2_take_36 (fun v36 e36 => ?_)
      rw [e36.trans e20.symm]
      refine q_iald (pc := 37) hG dX2_take_37 hS7.1 ai_110 tA1 (q_ix r_2 (by decide)) (fun v37 f37 g37 => ?_)
      have f_6 := (hS7.2 _ _ _ _ tA1 rfl).symm.trans f37
      refine q_iast (pc := 38) hG dX2_take_38 hS7 ai_137 T29 (q_ix r_1 (by decide)) g37 (by decide) rfl (fun s38 u38 w38 => ?_)
      have m38 : s38 b29 p7_3.toInt.toNat = .int v37 := by rw [u38]; exact q_up_same
      refine q_aload_n (pc := 39) hG dX2_take_39 0 rfl ?_
      refine q_getR (pc := 40) (k2 := 138) (n2 := 20) hG fl_X2_19 dX2_take_40 w38.1 tA0 ff_2_2 (fun b40 f40 T40 => ?_)
      have f_7 := (w38.2 _ _ _ _ tA0 rfl).symm.trans f40
      refine q_iload_n (pc := 43) hG dX2_take_43 3 rfl ?_
      refine q_aload_n (pc := 44) hG dX2_take_44 1 rfl ?_
      refine q_iconst (pc := 45) hG dX2_take_45 ki_2 ?_
      refine q_iload_n (pc := 46) hG dX2_take_46 3 rfl ?_
      refine q_imul (pc := 47) hG dX2_take_47 (fun v47 e47 => ?_)
      rw [e47.trans e20.symm]
      refine q_iconst (pc := 48) hG dX2_take_48 ki_1 ?_
      refine q_iadd (pc := 49) hG dX2_take_49 (fun v49 e49 => ?_)
      rw [e49.trans e22.symm]
      refine q_iald (pc := 50) hG dX2_take_50 w38.1 ai_110 tA1 (q_ix r_4 (by decide)) (fun v50 f50 g50 => ?_)
      have f_8 := (w38.2 _ _ _ _ tA1 rfl).symm.trans f50
      refine q_iast (pc := 51) hG dX2_take_51 w38 ai_138 T40 (q_ix r_1 (by decide)) g50 (by decide) rfl (fun s51 u51 w51 => ?_)
      have m51 : s51 b40 p7_3.toInt.toNat = .int v50 := by rw [u51]; exact q_up_same
      refine q_aload_n (pc := 52) hG dX2_take_52 0 rfl ?_
      refine q_getV (pc := 53) (v := .ref b40) hG fl_X2_19 dX2_take_53 tA0 (w51.same tA0 rfl f_7) ?_
      refine q_iload_n (pc := 56) hG dX2_take_56 3 rfl ?_
      refine q_ialdV (pc := 57) (v := .int v50) hG dX2_take_57 T40 (by decide) (by decide) (q_ix r_1 (by decide)) m51 ?_
      refine q_iconst (pc := 58) hG dX2_take_58 ki_0 ?_
      refine q_iconst (pc := 59) hG dX2_take_59 ki_1 ?_
      refine q_pN (pc := 60) [.int v50, .int 0, .int 1] [] hG (c_X11_isIn τ s51 v50 0 1 w51.1) my_X11_isIn w238 nw_16 dX2_take_60 rfl rfl (Nat.le_of_ble_eq_true rfl) (by decide) (fun v60 p60 => ?_)
      refine q_if_eq (pc := 63) hG 87 dX2_take_63 rfl ?_ ?_
      · intro c63
        refine q_iconst (pc := 87) hG dX2_take_87 ki_0 ?_
        exact q_zrt hG hE dX2_take_88 (q_r.mono rl_0 (by decide)) ⟨w51, (q_r.mono rl_0 (by decide))⟩
      intro c63
      have g_9 := p60.2.2.mp (q_one p60.1 c63)
      refine q_iload_n (pc := 66) hG dX2_take_66 3 rfl ?_
      have J89 : q_O X 0 0 τ s51 89 [(0, .ref a0), (1, .ref a1), (2, .int x2), (3, .int p7_3)] [] := by
        refine q_aload_n (pc := 89) hG dX2_take_89 0 rfl ?_
        refine q_dup (pc := 90) hG dX2_take_90 rfl ?_
        refine q_getV (pc := 91) (v := .int F7) hG fl_X2_9 dX2_take_91 tA0 (by rw [u51]; exact (q_keepK tA0 T40 (by decide)).trans (by rw [u38]; exact (q_keepK tA0 T29 (by decide)).trans iF7.1)) ?_
        refine q_iconst (pc := 94) hG dX2_take_94 ki_1 ?_
        refine q_iadd (pc := 95) hG dX2_take_95 (fun v95 e95 => ?_)
        have r_10 := (q_addN (lo := 1) (hi := 21) e95 iF7.2 rl_1 (by decide)).2
        have r_11 := q_rgt (q_r_any x2) r7_3 c9 1 (by decide)
        refine q_putI (pc := 96) hG fl_X2_9 dX2_take_96 w51 tA0 ff_2_0 (show q_r v95 0 20 from ⟨(by have o0 := (q_addN (lo := 1) (hi := 21) e95 iF7.2 rl_1 (by decide)).1; have o1 := iR7; have o2 := c9; have o3 := c15; have o4 := (by have q := (q_mulN (lo := 0) (hi := 38) e20 rl_2 r_1 (by decide)).1; rw [tl_2] at q; exact q); have o5 := (q_addN (lo := 1) (hi := 39) e22 r_2 rl_1 (by decide)).1; have o6 := c25; have o7 := iF7.2; have o8 := r_1; have o9 := r_2; have o10 := r_4; have o11 := r_10; have o12 := r_11; have l13 := tl_1; have l14 := tl_20; have l15 := tl_260; unfold q_r at o7 o8 o9 o10 o11 o12; omega), (by have o0 := (q_addN (lo := 1) (hi := 21) e95 iF7.2 rl_1 (by decide)).1; have o1 := iR7; have o2 := c9; have o3 := c15; have o4 := (by have q := (q_mulN (lo := 0) (hi := 38) e20 rl_2 r_1 (by decide)).1; rw [tl_2] at q; exact q); have o5 := (q_addN (lo := 1) (hi := 39) e22 r_2 rl_1 (by decide)).1; have o6 := c25; have o7 := iF7.2; have o8 := r_1; have o9 := r_2; have o10 := r_4; have o11 := r_10; have o12 := r_11; have l13 := tl_1; have l14 := tl_20; have l15 := tl_260; unfold q_r at o7 o8 o9 o10 o11 o12; omega)⟩) (by decide) rfl (fun s96 u96 w96 => ?_)
        have m96 : s96 a0 0 = .int v95 := by rw [u96]; exact q_up_same
        obtain ⟨v99, e99⟩ : ∃ z : Int32, z = p7_3 + Int32.ofInt 1 := ⟨_, rfl⟩
        have h99 := q_incN (lo := 1) (hi := 20) r_1 (by decide) (by decide) e99
        refine q_iinc (pc := 99) [(3, .int v99), (0, .ref a0), (1, .ref a1), (2, .int x2)] hG dX2_take_99 3 rfl e99 (by decide) rfl ?_
        refine q_goto (pc := 102) 7 hG dX2_take_102 rfl ?_
        refine q_lv [1, 2, 3, 0] rfl ?_
        exact ih7 v99 s96 v95 (q_r.mono h99.2 (by decide)) w96 ⟨m96, (show q_r v95 0 20 from ⟨(by have o0 := (q_addN (lo := 1) (hi := 21) e95 iF7.2 rl_1 (by decide)).1; have o1 := iR7; have o2 := c9; have o3 := c15; have o4 := (by have q := (q_mulN (lo := 0) (hi := 38) e20 rl_2 r_1 (by decide)).1; rw [tl_2] at q; exact q); have o5 := (q_addN (lo := 1) (hi := 39) e22 r_2 rl_1 (by decide)).1; have o6 := c25; have o7 := h99.1; have o8 := iF7.2; have o9 := r_1; have o10 := r_2; have o11 := r_4; have o12 := r_10; have o13 := h99.2; have o14 := r_11; have l15 := tl_1; have l16 := tl_20; have l17 := tl_260; unfold q_r at o8 o9 o10 o11 o12 o13 o14; omega), (by have o0 := (q_addN (lo := 1) (hi := 21) e95 iF7.2 rl_1 (by decide)).1; have o1 := iR7; have o2 := c9; have o3 := c15; have o4 := (by have q := (q_mulN (lo := 0) (hi := 38) e20 rl_2 r_1 (by decide)).1; rw [tl_2] at q; exact q); have o5 := (q_addN (lo := 1) (hi := 39) e22 r_2 rl_1 (by decide)).1; have o6 := c25; have o7 := h99.1; have o8 := iF7.2; have o9 := r_1; have o10 := r_2; have o11 := r_4; have o12 := r_10; have o13 := h99.2; have o14 := r_11; have l15 := tl_1; have l16 := tl_20; have l17 := tl_260; unfold q_r at o8 o9 o10 o11 o12 o13 o14; omega)⟩)⟩ (by have o0 := (q_addN (lo := 1) (hi := 21) e95 iF7.2 rl_1 (by decide)).1; have o1 := h99.1; have o2 := iR7; have o3 := c9; have o4 := c15; have o5 := (by have q := (q_mulN (lo := 0) (hi := 38) e20 rl_2 r_1 (by decide)).1; rw [tl_2] at q; exact q); have o6 := (q_addN (lo := 1) (hi := 39) e22 r_2 rl_1 (by decide)).1; have o7 := c25; have o8 := iF7.2; have o9 := r_1; have o10 := r_2; have o11 := r_4; have o12 := r_10; have o13 := h99.2; have o14 := r_11; have l15 := tl_1; have l16 := tl_20; have l17 := tl_260; unfold q_r at o8 o9 o10 o11 o12 o13 o14; omega) (q_measU hm7 (by have o0 := iR7; have o1 := c9; have o2 := c15; have o3 := (by have q := (q_mulN (lo := 0) (hi := 38) e20 rl_2 r_1 (by decide)).1; rw [tl_2] at q; exact q); have o4 := (q_addN (lo := 1) (hi := 39) e22 r_2 rl_1 (by decide)).1; have o5 := c25; have o6 := (q_addN (lo := 1) (hi := 21) e95 iF7.2 rl_1 (by decide)).1; have o7 := h99.1; have o8 := iF7.2; have o9 := r_1; have o10 := r_2; have o11 := r_4; have o12 := r_10; have o13 := h99.2; have o14 := r_11; have l15 := tl_1; have l16 := tl_20; have l17 := tl_260; unfold q_r at o8 o9 o10 o11 o12 o13 o14; omega) (h99.2).2)
      refine q_if_le (pc := 67) hG 89 dX2_take_67 rfl ?_ ?_
      · intro c67
        refine q_lv [0, 1, 2, 3] rfl ?_
        exact J89 
      intro c67
      refine q_aload_n (pc := 70) hG dX2_take_70 0 rfl ?_
      refine q_getV (pc := 71) (v := .ref b29) hG fl_X2_15 dX2_take_71 tA0 (w51.same tA0 rfl f_5) ?_
      refine q_iload_n (pc := 74) hG dX2_take_74 3 rfl ?_
      have r_12 := q_zgt r_1 c67
      refine q_ialdV (pc := 75) (v := .int v37) hG dX2_take_75 T29 (by decide) (by decide) (q_ix r_12 (by decide)) (by rw [u51]; exact (q_keepK T29 T40 (by decide)).trans m38) ?_
      refine q_aload_n (pc := 76) hG dX2_take_76 0 rfl ?_
      refine q_getV (pc := 77) (v := .ref b29) hG fl_X2_15 dX2_take_77 tA0 (w51.same tA0 rfl f_5) ?_
      refine q_iload_n (pc := 80) hG dX2_take_80 3 rfl ?_
      refine q_iconst (pc := 81) hG dX2_take_81 ki_1 ?_
      refine q_isub (pc := 82) hG dX2_take_82 (fun v82 e82 => ?_)
      have r_13 := (q_subN (lo := 0) (hi := 18) e82 r_12 rl_1 (by decide)).2
      refine q_iald (pc := 83) hG dX2_take_83 w51.1 ai_137 T29 (q_ix r_13 (by decide)) (fun v83 f83 g83 => ?_)
      refine q_icmp_ge (pc := 84) hG 89 dX2_take_84 rfl ?_ ?_
      · intro c84
        refine q_lv [0, 1, 2, 3] rfl ?_
        exact J89 
      intro c84
      refine q_iconst (pc := 87) hG dX2_take_87 ki_0 ?_
      exact q_zrt hG hE dX2_take_88 (q_r.mono rl_0 (by decide)) ⟨w51, (q_r.mono rl_0 (by decide))⟩
  refine q_lv [1, 2, 3, 0] rfl ?_
  exact J7 _ 0 s2 0 (q_r.mono rl_0 (by decide)) w2 ⟨m2, (q_r.mono rl_0 (by decide))⟩ (by have l0 := tl_0; omega) (Nat.lt_succ_self _)
