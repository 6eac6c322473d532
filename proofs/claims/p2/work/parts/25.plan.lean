/-! laid by wip/p2/build.py -/
-- FAIL yX6_paintOne
-- FAIL yX6_paint
theorem dX6_conesNeeded_0 : decode cX6_conesNeeded 0 = .ok (.iconst 0, 1) := by decide +kernel
theorem dX6_conesNeeded_1 : decode cX6_conesNeeded 1 = .ok (.istore_n 2, 1) := by decide +kernel
theorem dX6_conesNeeded_2 : decode cX6_conesNeeded 2 = .ok (.iconst 0, 1) := by decide +kernel
theorem dX6_conesNeeded_3 : decode cX6_conesNeeded 3 = .ok (.istore_n 3, 1) := by decide +kernel
theorem dX6_conesNeeded_4 : decode cX6_conesNeeded 4 = .ok (.iload_n 3, 1) := by decide +kernel
theorem dX6_conesNeeded_5 : decode cX6_conesNeeded 5 = .ok (.iload_n 1, 1) := by decide +kernel
theorem dX6_conesNeeded_6 : decode cX6_conesNeeded 6 = .ok (.if_icmp .ge 76, 3) := by decide +kernel
theorem dX6_conesNeeded_9 : decode cX6_conesNeeded 9 = .ok (.iconst 0, 1) := by decide +kernel
theorem dX6_conesNeeded_10 : decode cX6_conesNeeded 10 = .ok (.istore 4, 2) := by decide +kernel
theorem dX6_conesNeeded_12 : decode cX6_conesNeeded 12 = .ok (.iconst 0, 1) := by decide +kernel
theorem dX6_conesNeeded_13 : decode cX6_conesNeeded 13 = .ok (.istore 5, 2) := by decide +kernel
theorem dX6_conesNeeded_15 : decode cX6_conesNeeded 15 = .ok (.iload 5, 2) := by decide +kernel
theorem dX6_conesNeeded_17 : decode cX6_conesNeeded 17 = .ok (.iload_n 1, 1) := by decide +kernel
theorem dX6_conesNeeded_18 : decode cX6_conesNeeded 18 = .ok (.if_icmp .ge 51, 3) := by decide +kernel
theorem dX6_conesNeeded_21 : decode cX6_conesNeeded 21 = .ok (.iload 4, 2) := by decide +kernel
theorem dX6_conesNeeded_23 : decode cX6_conesNeeded 23 = .ok (.aload_n 0, 1) := by decide +kernel
theorem dX6_conesNeeded_24 : decode cX6_conesNeeded 24 = .ok (.getfield 9, 3) := by decide +kernel
theorem dX6_conesNeeded_27 : decode cX6_conesNeeded 27 = .ok (.iload 5, 2) := by decide +kernel
theorem dX6_conesNeeded_29 : decode cX6_conesNeeded 29 = .ok (.iaload, 1) := by decide +kernel
theorem dX6_conesNeeded_30 : decode cX6_conesNeeded 30 = .ok (.aload_n 0, 1) := by decide +kernel
theorem dX6_conesNeeded_31 : decode cX6_conesNeeded 31 = .ok (.getfield 9, 3) := by decide +kernel
theorem dX6_conesNeeded_34 : decode cX6_conesNeeded 34 = .ok (.iload_n 3, 1) := by decide +kernel
theorem dX6_conesNeeded_35 : decode cX6_conesNeeded 35 = .ok (.iaload, 1) := by decide +kernel
theorem dX6_conesNeeded_36 : decode cX6_conesNeeded 36 = .ok (.if_icmp .gt 23, 3) := by decide +kernel
theorem dX6_conesNeeded_39 : decode cX6_conesNeeded 39 = .ok (.aload_n 0, 1) := by decide +kernel
theorem dX6_conesNeeded_40 : decode cX6_conesNeeded 40 = .ok (.getfield 9, 3) := by decide +kernel
theorem dX6_conesNeeded_43 : decode cX6_conesNeeded 43 = .ok (.iload_n 3, 1) := by decide +kernel
theorem dX6_conesNeeded_44 : decode cX6_conesNeeded 44 = .ok (.iaload, 1) := by decide +kernel
theorem dX6_conesNeeded_45 : decode cX6_conesNeeded 45 = .ok (.aload_n 0, 1) := by decide +kernel
theorem dX6_conesNeeded_46 : decode cX6_conesNeeded 46 = .ok (.getfield 15, 3) := by decide +kernel
theorem dX6_conesNeeded_49 : decode cX6_conesNeeded 49 = .ok (.iload 5, 2) := by decide +kernel
theorem dX6_conesNeeded_51 : decode cX6_conesNeeded 51 = .ok (.iaload, 1) := by decide +kernel
theorem dX6_conesNeeded_52 : decode cX6_conesNeeded 52 = .ok (.if_icmp .ge 7, 3) := by decide +kernel
theorem dX6_conesNeeded_55 : decode cX6_conesNeeded 55 = .ok (.iconst 1, 1) := by decide +kernel
theorem dX6_conesNeeded_56 : decode cX6_conesNeeded 56 = .ok (.goto 4, 3) := by decide +kernel
theorem dX6_conesNeeded_59 : decode cX6_conesNeeded 59 = .ok (.iconst 0, 1) := by decide +kernel
theorem dX6_conesNeeded_60 : decode cX6_conesNeeded 60 = .ok (.iadd, 1) := by decide +kernel
theorem dX6_conesNeeded_61 : decode cX6_conesNeeded 61 = .ok (.istore 4, 2) := by decide +kernel
theorem dX6_conesNeeded_63 : decode cX6_conesNeeded 63 = .ok (.iinc 5 1, 3) := by decide +kernel
theorem dX6_conesNeeded_66 : decode cX6_conesNeeded 66 = .ok (.goto (-51), 3) := by decide +kernel
theorem dX6_conesNeeded_69 : decode cX6_conesNeeded 69 = .ok (.iload_n 2, 1) := by decide +kernel
theorem dX6_conesNeeded_70 : decode cX6_conesNeeded 70 = .ok (.iload 4, 2) := by decide +kernel
theorem dX6_conesNeeded_72 : decode cX6_conesNeeded 72 = .ok (.invokestatic 49, 3) := by decide +kernel
theorem dX6_conesNeeded_75 : decode cX6_conesNeeded 75 = .ok (.istore_n 2, 1) := by decide +kernel
theorem dX6_conesNeeded_76 : decode cX6_conesNeeded 76 = .ok (.iinc 3 1, 3) := by decide +kernel
theorem dX6_conesNeeded_79 : decode cX6_conesNeeded 79 = .ok (.goto (-75), 3) := by decide +kernel
theorem dX6_conesNeeded_82 : decode cX6_conesNeeded 82 = .ok (.iload_n 2, 1) := by decide +kernel
theorem dX6_conesNeeded_83 : decode cX6_conesNeeded 83 = .ok (.ireturn, 1) := by decide +kernel
set_option maxRecDepth 100000 in
set_option maxHeartbeats 4000000 in
theorem c_X6_conesNeeded {l : Launch} {D : q_D} (τ : q_T) (σ : q_V) (a0 : Nat) (x1 : Int32) (hI : q_I τ σ) (tA0 : τ a0 = some (5, 1)) (rA1 : q_r x1 8 64) : q_Cp l D yX6_conesNeeded cX6_conesNeeded 6 (some .int) 1 21 τ σ [.ref a0, .int x1] (fun r => q_r r 0 2147483647) := by
  refine q_meti rfl (Nat.le_of_ble_eq_true rfl) (fun X hG hE => ?_)
  show q_O X 0 0 τ σ 0 [(0, .ref a0), (1, .int x1)] []
  refine q_iconst (pc := 0) hG dX6_conesNeeded_0 ki_0 ?_
  refine q_istore_n (pc := 1) [(2, .int 0), (0, .ref a0), (1, .int x1)] hG dX6_conesNeeded_1 (by decide) rfl ?_
  refine q_iconst (pc := 2) hG dX6_conesNeeded_2 ki_0 ?_
  refine q_istore_n (pc := 3) [(3, .int 0), (2, .int 0), (0, .ref a0), (1, .int x1)] hG dX6_conesNeeded_3 (by decide) rfl ?_
  have J4 : ∀ (n4 : Nat) (p4_2 : Int32) (p4_3 : Int32), q_r p4_2 0 2147483647 → q_r p4_3 0 64 → (64 - p4_3.toInt).toNat < n4 → q_O X 0 0 τ σ 4 [(0, .ref a0), (1, .int x1), (2, .int p4_2), (3, .int p4_3)] [] := by
    intro n4
    induction n4 with
    | zero => intro p4_2 p4_3 r4_2 r4_3 hm4; exact absurd hm4 (Nat.not_lt_zero _)
    | succ n4 ih4 =>
      intro p4_2 p4_3 r4_2 r4_3 hm4
      refine q_iload_n (pc := 4) hG dX6_conesNeeded_4 3 rfl ?_
      refine q_iload_n (pc := 5) hG dX6_conesNeeded_5 1 rfl ?_
      refine q_icmp_ge (pc := 6) hG 82 dX6_conesNeeded_6 rfl ?_ ?_
      · intro c6
        refine q_iload_n (pc := 82) hG dX6_conesNeeded_82 2 rfl ?_
        exact q_irt hG hE dX6_conesNeeded_83 ⟨rfl, r4_2⟩
      intro c6
      refine q_iconst (pc := 9) hG dX6_conesNeeded_9 ki_0 ?_
      refine q_istore (pc := 10) [(4, .int 0), (0, .ref a0), (1, .int x1), (2, .int p4_2), (3, .int p4_3)] hG dX6_conesNeeded_10 (by decide) rfl ?_
      refine q_iconst (pc := 12) hG dX6_conesNeeded_12 ki_0 ?_
      refine q_istore (pc := 13) [(5, .int 0), (4, .int 0), (0, .ref a0), (1, .int x1), (2, .int p4_2), (3, .int p4_3)] hG dX6_conesNeeded_13 (by decide) rfl ?_
      have J15 : ∀ (n15 : Nat) (p15_4 : Int32) (p15_5 : Int32), q_r p15_5 0 64 → (64 - p15_5.toInt).toNat < n15 → q_O X 0 0 τ σ 15 [(0, .ref a0), (1, .int x1), (2, .int p4_2), (3, .int p4_3), (4, .int p15_4), (5, .int p15_5)] [] := by
        intro n15
        induction n15 with
        | zero => intro p15_4 p15_5 r15_5 hm15; exact absurd hm15 (Nat.not_lt_zero _)
        | succ n15 ih15 =>
          intro p15_4 p15_5 r15_5 hm15
          refine q_iload (pc := 15) hG dX6_conesNeeded_15 5 rfl ?_
          refine q_iload_n (pc := 17) hG dX6_conesNeeded_17 1 rfl ?_
          refine q_icmp_ge (pc := 18) hG 69 dX6_conesNeeded_18 rfl ?_ ?_
          · intro c18
            refine q_iload_n (pc := 69) hG dX6_conesNeeded_69 2 rfl ?_
            refine q_iload (pc := 70) hG dX6_conesNeeded_70 4 rfl ?_
            refine q_pS (pc := 72) [.int p4_2, .int p15_4] [] hG (c_J9_max_7cf53 τ σ p4_2 p15_4 hI) my_J9_max_7cf53 w262 w613 dX6_conesNeeded_72 rfl rfl (Nat.le_of_ble_eq_true rfl) (by decide) (fun v72 p72 => ?_)
            refine q_istore_n (pc := 75) [(2, .int v72), (0, .ref a0), (1, .int x1), (3, .int p4_3), (4, .int p15_4), (5, .int p15_5)] hG dX6_conesNeeded_75 (by decide) rfl ?_
            obtain ⟨v76, e76⟩ : ∃ z : Int32, z = p4_3 + Int32.ofInt 1 := ⟨_, rfl⟩
            have r_1 := q_rlt r4_3 rA1 c6 63 (by decide)
            have h76 := q_incN (lo := 1) (hi := 64) r_1 (by decide) (by decide) e76
            refine q_iinc (pc := 76) [(3, .int v76), (2, .int v72), (0, .ref a0), (1, .int x1), (4, .int p15_4), (5, .int p15_5)] hG dX6_conesNeeded_76 3 rfl e76 (by decide) rfl ?_
            refine q_goto (pc := 79) 4 hG dX6_conesNeeded_79 rfl ?_
            refine q_lv [2, 3, 1, 0] rfl ?_
            have r_2 := q_maxN (lo := 0) (hi := 2147483647) p72.2 r4_2 (q_r_any p15_4) (by decide)
            have r_3 := q_rge r15_5 rA1 c18
            exact ih4 v72 v76 r_2 (q_r.mono h76.2 (by decide)) (q_measU hm4 (by have o0 := c6; have o1 := c18; have o2 := h76.1; have o3 := r_3; have o4 := r_1; have o5 := h76.2; have o6 := rA1; unfold q_r at o3 o4 o5 o6; omega) (h76.2).2)
          intro c18
          refine q_iload (pc := 21) hG dX6_conesNeeded_21 4 rfl ?_
          refine q_aload_n (pc := 23) hG dX6_conesNeeded_23 0 rfl ?_
          refine q_getR (pc := 24) (k2 := 129) (n2 := 64) hG fl_X6_9 dX6_conesNeeded_24 hI tA0 ff_5_0 (fun b24 f24 T24 => ?_)
          refine q_iload (pc := 27) hG dX6_conesNeeded_27 5 rfl ?_
          have r_4 := q_rlt r15_5 rA1 c18 63 (by decide)
          refine q_iald (pc := 29) hG dX6_conesNeeded_29 hI ai_129 T24 (q_ix r_4 (by decide)) (fun v29 f29 g29 => ?_)
          refine q_aload_n (pc := 30) hG dX6_conesNeeded_30 0 rfl ?_
          refine q_getV (pc := 31) (v := .ref b24) hG fl_X6_9 dX6_conesNeeded_31 tA0 f24 ?_
          refine q_iload_n (pc := 34) hG dX6_conesNeeded_34 3 rfl ?_
          have r_5 := q_rlt r4_3 rA1 c6 63 (by decide)
          refine q_iald (pc := 35) hG dX6_conesNeeded_35 hI ai_129 T24 (q_ix r_5 (by decide)) (fun v35 f35 g35 => ?_)
          have J60 : ∀ (p60_s0 : Int32), q_r p60_s0 0 1 → q_O X 0 0 τ σ 60 [(0, .ref a0), (1, .int x1), (2, .int p4_2), (3, .int p4_3), (5, .int p15_5)] [.int p60_s0, .int p15_4] := by
            intro p60_s0 r60_s0
            refine q_iadd (pc := 60) hG dX6_conesNeeded_60 (fun v60 e60 => ?_)
            refine q_istore (pc := 61) [(4, .int v60), (0, .ref a0), (1, .int x1), (2, .int p4_2), (3, .int p4_3), (5, .int p15_5)] hG dX6_conesNeeded_61 (by decide) rfl ?_
            obtain ⟨v63, e63⟩ : ∃ z : Int32, z = p15_5 + Int32.ofInt 1 := ⟨_, rfl⟩
            have h63 := q_incN (lo := 1) (hi := 64) r_4 (by decide) (by decide) e63
            refine q_iinc (pc := 63) [(5, .int v63), (4, .int v60), (0, .ref a0), (1, .int x1), (2, .int p4_2), (3, .int p4_3)] hG dX6_conesNeeded_63 5 rfl e63 (by decide) rfl ?_
            refine q_goto (pc := 66) 15 hG dX6_conesNeeded_66 rfl ?_
            refine q_lv [2, 3, 4, 5, 1, 0] rfl ?_
            exact ih15 v60 v63 (q_r.mono h63.2 (by decide)) (q_measU hm15 (by have o0 := c18; have o1 := h63.1; have o2 := c6; have o3 := r_4; have o4 := r_5; have o5 := h63.2; have o6 := rA1; unfold q_r at o3 o4 o5 o6; omega) (h63.2).2)
          have J59 : q_O X 0 0 τ σ 59 [(0, .ref a0), (1, .int x1), (2, .int p4_2), (3, .int p4_3), (5, .int p15_5)] [.int p15_4] := by
            refine q_iconst (pc := 59) hG dX6_conesNeeded_59 ki_0 ?_
            refine q_lv [0, 1, 2, 3, 4] rfl ?_
            exact J60 0 (q_r.mono rl_0 (by decide))
          refine q_icmp_gt (pc := 36) hG 59 dX6_conesNeeded_36 rfl ?_ ?_
          · intro c36
            refine q_lv [0, 1, 2, 3, 5] rfl ?_
            exact J59 
          intro c36
          refine q_aload_n (pc := 39) hG dX6_conesNeeded_39 0 rfl ?_
          refine q_getV (pc := 40) (v := .ref b24) hG fl_X6_9 dX6_conesNeeded_40 tA0 f24 ?_
          refine q_iload_n (pc := 43) hG dX6_conesNeeded_43 3 rfl ?_
          refine q_ialdV (pc := 44) (v := .int v35) hG dX6_conesNeeded_44 T24 (by decide) (by decide) (q_ix r_5 (by decide)) f35 ?_
          refine q_aload_n (pc := 45) hG dX6_conesNeeded_45 0 rfl ?_
          refine q_getR (pc := 46) (k2 := 130) (n2 := 64) hG fl_X6_15 dX6_conesNeeded_46 hI tA0 ff_5_1 (fun b46 f46 T46 => ?_)
          refine q_iload (pc := 49) hG dX6_conesNeeded_49 5 rfl ?_
          refine q_iald (pc := 51) hG dX6_conesNeeded_51 hI ai_130 T46 (q_ix r_4 (by decide)) (fun v51 f51 g51 => ?_)
          refine q_icmp_ge (pc := 52) hG 59 dX6_conesNeeded_52 rfl ?_ ?_
          · intro c52
            refine q_lv [0, 1, 2, 3, 5] rfl ?_
            exact J59 
          intro c52
          refine q_iconst (pc := 55) hG dX6_conesNeeded_55 ki_1 ?_
          refine q_goto (pc := 56) 60 hG dX6_conesNeeded_56 rfl ?_
          refine q_lv [0, 1, 2, 3, 5] rfl ?_
          exact J60 1 (q_r.mono rl_1 (by decide))
      refine q_lv [2, 3, 4, 5, 1, 0] rfl ?_
      exact J15 _ 0 0 (q_r.mono rl_0 (by decide)) (Nat.lt_succ_self _)
  refine q_lv [2, 3, 1, 0] rfl ?_
  exact J4 _ 0 0 (q_r.mono rl_0 (by decide)) (q_r.mono rl_0 (by decide)) (Nat.lt_succ_self _)
