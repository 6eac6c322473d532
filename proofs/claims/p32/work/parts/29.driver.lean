/-! laid by wip/p2/build.py -/
theorem dX0_belief_0 : decode cX0_belief 0 = .ok (.iload_n 3, 1) := by decide +kernel
theorem dX0_belief_1 : decode cX0_belief 1 = .ok (.ifCond .eq 7, 3) := by decide +kernel
theorem dX0_belief_4 : decode cX0_belief 4 = .ok (.iconst 1, 1) := by decide +kernel
theorem dX0_belief_5 : decode cX0_belief 5 = .ok (.goto 4, 3) := by decide +kernel
theorem dX0_belief_8 : decode cX0_belief 8 = .ok (.iconst 0, 1) := by decide +kernel
theorem dX0_belief_9 : decode cX0_belief 9 = .ok (.istore 4, 2) := by decide +kernel
theorem dX0_belief_11 : decode cX0_belief 11 = .ok (.aload_n 0, 1) := by decide +kernel
theorem dX0_belief_12 : decode cX0_belief 12 = .ok (.getfield 25, 3) := by decide +kernel
theorem dX0_belief_15 : decode cX0_belief 15 = .ok (.iload_n 2, 1) := by decide +kernel
theorem dX0_belief_16 : decode cX0_belief 16 = .ok (.iaload, 1) := by decide +kernel
theorem dX0_belief_17 : decode cX0_belief 17 = .ok (.bipush (-100), 2) := by decide +kernel
theorem dX0_belief_19 : decode cX0_belief 19 = .ok (.if_icmp .ne 7, 3) := by decide +kernel
theorem dX0_belief_22 : decode cX0_belief 22 = .ok (.iconst 0, 1) := by decide +kernel
theorem dX0_belief_23 : decode cX0_belief 23 = .ok (.goto 18, 3) := by decide +kernel
theorem dX0_belief_26 : decode cX0_belief 26 = .ok (.aload_n 1, 1) := by decide +kernel
theorem dX0_belief_27 : decode cX0_belief 27 = .ok (.bipush 111, 2) := by decide +kernel
theorem dX0_belief_29 : decode cX0_belief 29 = .ok (.aload_n 0, 1) := by decide +kernel
theorem dX0_belief_30 : decode cX0_belief 30 = .ok (.iload_n 2, 1) := by decide +kernel
theorem dX0_belief_31 : decode cX0_belief 31 = .ok (.aload_n 0, 1) := by decide +kernel
theorem dX0_belief_32 : decode cX0_belief 32 = .ok (.getfield 31, 3) := by decide +kernel
theorem dX0_belief_35 : decode cX0_belief 35 = .ok (.iconst 0, 1) := by decide +kernel
theorem dX0_belief_36 : decode cX0_belief 36 = .ok (.iload 4, 2) := by decide +kernel
theorem dX0_belief_38 : decode cX0_belief 38 = .ok (.invokevirtual 34, 3) := by decide +kernel
theorem dX0_belief_41 : decode cX0_belief 41 = .ok (.istore 5, 2) := by decide +kernel
theorem dX0_belief_43 : decode cX0_belief 43 = .ok (.aload_n 0, 1) := by decide +kernel
theorem dX0_belief_44 : decode cX0_belief 44 = .ok (.iload_n 2, 1) := by decide +kernel
theorem dX0_belief_45 : decode cX0_belief 45 = .ok (.invokevirtual 40, 3) := by decide +kernel
theorem dX0_belief_48 : decode cX0_belief 48 = .ok (.ifCond .eq 21, 3) := by decide +kernel
theorem dX0_belief_51 : decode cX0_belief 51 = .ok (.aload_n 1, 1) := by decide +kernel
theorem dX0_belief_52 : decode cX0_belief 52 = .ok (.bipush 108, 2) := by decide +kernel
theorem dX0_belief_54 : decode cX0_belief 54 = .ok (.aload_n 0, 1) := by decide +kernel
theorem dX0_belief_55 : decode cX0_belief 55 = .ok (.iload_n 2, 1) := by decide +kernel
theorem dX0_belief_56 : decode cX0_belief 56 = .ok (.aload_n 0, 1) := by decide +kernel
theorem dX0_belief_57 : decode cX0_belief 57 = .ok (.getfield 31, 3) := by decide +kernel
theorem dX0_belief_60 : decode cX0_belief 60 = .ok (.iconst 0, 1) := by decide +kernel
theorem dX0_belief_61 : decode cX0_belief 61 = .ok (.iload 4, 2) := by decide +kernel
theorem dX0_belief_63 : decode cX0_belief 63 = .ok (.invokevirtual 34, 3) := by decide +kernel
theorem dX0_belief_66 : decode cX0_belief 66 = .ok (.goto 4, 3) := by decide +kernel
theorem dX0_belief_69 : decode cX0_belief 69 = .ok (.iconst 0, 1) := by decide +kernel
theorem dX0_belief_70 : decode cX0_belief 70 = .ok (.istore 6, 2) := by decide +kernel
theorem dX0_belief_72 : decode cX0_belief 72 = .ok (.aload_n 0, 1) := by decide +kernel
theorem dX0_belief_73 : decode cX0_belief 73 = .ok (.iload_n 2, 1) := by decide +kernel
theorem dX0_belief_74 : decode cX0_belief 74 = .ok (.invokevirtual 44, 3) := by decide +kernel
theorem dX0_belief_77 : decode cX0_belief 77 = .ok (.ifCond .eq 9, 3) := by decide +kernel
theorem dX0_belief_80 : decode cX0_belief 80 = .ok (.iload 6, 2) := by decide +kernel
theorem dX0_belief_82 : decode cX0_belief 82 = .ok (.iconst 2, 1) := by decide +kernel
theorem dX0_belief_83 : decode cX0_belief 83 = .ok (.idiv, 1) := by decide +kernel
theorem dX0_belief_84 : decode cX0_belief 84 = .ok (.istore 6, 2) := by decide +kernel
theorem dX0_belief_86 : decode cX0_belief 86 = .ok (.iload 5, 2) := by decide +kernel
theorem dX0_belief_88 : decode cX0_belief 88 = .ok (.ifCond .ne 10, 3) := by decide +kernel
theorem dX0_belief_91 : decode cX0_belief 91 = .ok (.iload 6, 2) := by decide +kernel
theorem dX0_belief_93 : decode cX0_belief 93 = .ok (.ifCond .ne 5, 3) := by decide +kernel
theorem dX0_belief_96 : decode cX0_belief 96 = .ok (.iconst 0, 1) := by decide +kernel
theorem dX0_belief_97 : decode cX0_belief 97 = .ok (.ireturn, 1) := by decide +kernel
theorem dX0_belief_98 : decode cX0_belief 98 = .ok (.iload 5, 2) := by decide +kernel
theorem dX0_belief_100 : decode cX0_belief 100 = .ok (.iload 6, 2) := by decide +kernel
theorem dX0_belief_102 : decode cX0_belief 102 = .ok (.if_icmp .ne 17, 3) := by decide +kernel
theorem dX0_belief_105 : decode cX0_belief 105 = .ok (.aload_n 0, 1) := by decide +kernel
theorem dX0_belief_106 : decode cX0_belief 106 = .ok (.iload_n 2, 1) := by decide +kernel
theorem dX0_belief_107 : decode cX0_belief 107 = .ok (.invokevirtual 44, 3) := by decide +kernel
theorem dX0_belief_110 : decode cX0_belief 110 = .ok (.ifCond .eq 7, 3) := by decide +kernel
theorem dX0_belief_113 : decode cX0_belief 113 = .ok (.iconst 1, 1) := by decide +kernel
theorem dX0_belief_114 : decode cX0_belief 114 = .ok (.goto 4, 3) := by decide +kernel
theorem dX0_belief_117 : decode cX0_belief 117 = .ok (.iconst 2, 1) := by decide +kernel
theorem dX0_belief_118 : decode cX0_belief 118 = .ok (.ireturn, 1) := by decide +kernel
theorem dX0_belief_119 : decode cX0_belief 119 = .ok (.iload 5, 2) := by decide +kernel
theorem dX0_belief_121 : decode cX0_belief 121 = .ok (.iload 6, 2) := by decide +kernel
theorem dX0_belief_123 : decode cX0_belief 123 = .ok (.if_icmp .le 7, 3) := by decide +kernel
theorem dX0_belief_126 : decode cX0_belief 126 = .ok (.iconst 1, 1) := by decide +kernel
theorem dX0_belief_127 : decode cX0_belief 127 = .ok (.goto 4, 3) := by decide +kernel
theorem dX0_belief_130 : decode cX0_belief 130 = .ok (.iconst 2, 1) := by decide +kernel
theorem dX0_belief_131 : decode cX0_belief 131 = .ok (.ireturn, 1) := by decide +kernel
def md_X0_belief : List (Nat × Nat) := [(3, 9), (3, 10), (3, 11), (3, 12), (3, 13), (3, 14), (3, 15), (117, 0)]
set_option maxRecDepth 100000 in
set_option maxHeartbeats 4000000 in
theorem c_X0_belief {l : Launch} {D : q_D} (τ : q_T) (σ : q_V) (a0 : Nat) (a1 : Nat) (x2 : Int32) (x3 : Int32) (hI : q_I τ σ) (tA0 : τ a0 = some (6, 1)) (tA1 : τ a1 = some (3, 1)) (rA2 : q_r x2 0 63) (rA3 : q_r x3 0 1) : q_Ci l D yX0_belief cX0_belief 7 (some .int) 5 119 τ σ [.ref a0, .ref a1, .int x2, .int x3] (fun r σ1 => q_S md_X0_belief τ σ σ1 ∧ (q_r r 0 2)) := by
  refine q_meti rfl (Nat.le_of_ble_eq_true rfl) (fun X hG hE => ?_)
  show q_O X 0 0 τ σ 0 [(0, .ref a0), (1, .ref a1), (2, .int x2), (3, .int x3)] []
  have hS0 : q_S md_X0_belief τ σ σ := q_S.rf hI
  refine q_iload_n (pc := 0) hG dX0_belief_0 3 rfl ?_
  have J9 : ∀ (p9_s0 : Int32), (q_r p9_s0 0 1) → q_O X 0 0 τ σ 9 [(0, .ref a0), (1, .ref a1), (2, .int x2)] [.int p9_s0] := by
    intro p9_s0 r9_s0
    refine q_istore (pc := 9) [(4, .int p9_s0), (0, .ref a0), (1, .ref a1), (2, .int x2)] hG dX0_belief_9 (by decide) rfl ?_
    refine q_aload_n (pc := 11) hG dX0_belief_11 1 rfl ?_
    refine q_getR (pc := 12) (k2 := 119) (n2 := 64) hG fl_X0_25 dX0_belief_12 hI tA0 ff_6_4 (fun b12 f12 T12 => ?_)
    refine q_iload_n (pc := 15) hG dX0_belief_15 3 rfl ?_
    refine q_iald (pc := 16) hG dX0_belief_16 hI ai_119 T12 (q_ix rA2 (by decide)) (fun v16 f16 g16 => ?_)
    refine q_bipush (pc := 17) hG dX0_belief_17 kb_m100 ?_
    have J41 : ∀ (p41_s0 : Int32) (σ41 : q_V), (q_r p41_s0 0 99) → (q_S md_X0_belief τ σ σ41) → q_O X 0 0 τ σ41 41 [(0, .ref a0), (1, .ref a1), (2, .int x2), (4, .int p9_s0)] [.int p41_s0] := by
      intro p41_s0 σ41 r41_s0 hS41
      refine q_istore (pc := 41) [(5, .int p41_s0), (0, .ref a0), (1, .ref a1), (2, .int x2), (4, .int p9_s0)] hG dX0_belief_41 (by decide) rfl ?_
      refine q_aload_n (pc := 43) hG dX0_belief_43 1 rfl ?_
      refine q_iload_n (pc := 44) hG dX0_belief_44 3 rfl ?_
      refine q_pV (pc := 45) [.int x2] [] hG (c_X7_isPainted τ σ41 a0 x2 hS41.1 tA0 rA2) my_X7_isPainted mv_X7_isPainted w679 dX0_belief_45 tA0 (by decide) rfl rfl (Nat.le_of_ble_eq_true rfl) (by decide) (fun v45 p45 => ?_)
      have J70 : ∀ (p70_s0 : Int32) (σ70 : q_V), (q_r p70_s0 0 99) → (q_S md_X0_belief τ σ σ70) → q_O X 0 0 τ σ70 70 [(0, .ref a0), (2, .int x2), (5, .int p41_s0)] [.int p70_s0] := by
        intro p70_s0 σ70 r70_s0 hS70
        refine q_istore (pc := 70) [(6, .int p70_s0), (0, .ref a0), (2, .int x2), (5, .int p41_s0)] hG dX0_belief_70 (by decide) rfl ?_
        refine q_aload_n (pc := 72) hG dX0_belief_72 1 rfl ?_
        refine q_iload_n (pc := 73) hG dX0_belief_73 2 rfl ?_
        refine q_pV (pc := 74) [.int x2] [] hG (c_X7_isSpoilt τ σ70 a0 x2 hS70.1 tA0 rA2) my_X7_isSpoilt mv_X7_isSpoilt w680 dX0_belief_74 tA0 (by decide) rfl rfl (Nat.le_of_ble_eq_true rfl) (by decide) (fun v74 p74 => ?_)
        have J86 : ∀ (p86_6 : Int32), (q_r p86_6 0 99) → q_O X 0 0 τ σ70 86 [(0, .ref a0), (2, .int x2), (5, .int p41_s0), (6, .int p86_6)] [] := by
          intro p86_6 r86_6
          refine q_iload (pc := 86) hG dX0_belief_86 2 rfl ?_
          have J98 : q_O X 0 0 τ σ70 98 [(0, .ref a0), (2, .int x2), (5, .int p41_s0), (6, .int p86_6)] [] := by
            refine q_iload (pc := 98) hG dX0_belief_98 2 rfl ?_
            refine q_iload (pc := 100) hG dX0_belief_100 3 rfl ?_
            refine q_icmp_ne (pc := 102) hG 119 dX0_belief_102 rfl ?_ ?_
            · intro c102
              refine q_iload (pc := 119) hG dX0_belief_119 2 rfl ?_
              refine q_iload (pc := 121) hG dX0_belief_121 3 rfl ?_
              refine q_icmp_le (pc := 123) hG 130 dX0_belief_123 rfl ?_ ?_
              · intro c123
                refine q_iconst (pc := 130) hG dX0_belief_130 ki_2 ?_
                exact q_irt hG hE dX0_belief_131 ⟨hS70, (q_r.mono rl_2 (by decide))⟩
              intro c123
              refine q_iconst (pc := 126) hG dX0_belief_126 ki_1 ?_
              refine q_goto (pc := 127) 131 hG dX0_belief_127 rfl ?_
              exact q_irt hG hE dX0_belief_131 ⟨hS70, (q_r.mono rl_1 (by decide))⟩
            intro c102
            refine q_aload_n (pc := 105) hG dX0_belief_105 0 rfl ?_
            refine q_iload_n (pc := 106) hG dX0_belief_106 1 rfl ?_
            refine q_pV (pc := 107) [.int x2] [] hG (c_X7_isSpoilt τ σ70 a0 x2 hS70.1 tA0 rA2) my_X7_isSpoilt mv_X7_isSpoilt w680 dX0_belief_107 tA0 (by decide) rfl rfl (Nat.le_of_ble_eq_true rfl) (by decide) (fun v107 p107 => ?_)
            refine q_if_eq (pc := 110) hG 117 dX0_belief_110 rfl ?_ ?_
            · intro c110
              refine q_iconst (pc := 117) hG dX0_belief_117 ki_2 ?_
              exact q_irt hG hE dX0_belief_118 ⟨hS70, (q_r.mono rl_2 (by decide))⟩
            intro c110
            refine q_iconst (pc := 113) hG dX0_belief_113 ki_1 ?_
            refine q_goto (pc := 114) 118 hG dX0_belief_114 rfl ?_
            exact q_irt hG hE dX0_belief_118 ⟨hS70, (q_r.mono rl_1 (by decide))⟩
          refine q_if_ne (pc := 88) hG 98 dX0_belief_88 rfl ?_ ?_
          · intro c88
            refine q_lv [0, 1, 2, 3] rfl ?_
            exact J98 
          intro c88
          refine q_iload (pc := 91) hG dX0_belief_91 3 rfl ?_
          refine q_if_ne (pc := 93) hG 98 dX0_belief_93 rfl ?_ ?_
          · intro c93
            refine q_lv [0, 1, 2, 3] rfl ?_
            exact J98 
          intro c93
          refine q_iconst (pc := 96) hG dX0_belief_96 ki_0 ?_
          exact q_irt hG hE dX0_belief_97 ⟨hS70, (q_r.mono rl_0 (by decide))⟩
        refine q_if_eq (pc := 77) hG 86 dX0_belief_77 rfl ?_ ?_
        · intro c77
          refine q_lv [1, 2, 3, 0] rfl ?_
          exact J86 p70_s0 r70_s0
        intro c77
        refine q_iload (pc := 80) hG dX0_belief_80 0 rfl ?_
        refine q_iconst (pc := 82) hG dX0_belief_82 ki_2 ?_
        refine q_idiv (pc := 83) hG dX0_belief_83 (q_nzr rl_2 (by decide)) (fun v83 e83 => ?_)
        refine q_istore (pc := 84) [(6, .int v83), (0, .ref a0), (2, .int x2), (5, .int p41_s0)] hG dX0_belief_84 (by decide) rfl ?_
        refine q_lv [1, 2, 3, 0] rfl ?_
        have r_1 := (⟨by have q1 := q_divP e83 r70_s0 rl_2 (by decide); have q2 := r70_s0; have q3 := tl_2; rw [q3] at q1; unfold q_r at q2; omega, by have q1 := q_divP e83 r70_s0 rl_2 (by decide); have q2 := r70_s0; have q3 := tl_2; rw [q3] at q1; unfold q_r at q2; omega⟩ : q_r v83 0 49)
        exact J86 v83 (q_r.mono r_1 (by decide))
      refine q_if_eq (pc := 48) hG 69 dX0_belief_48 rfl ?_ ?_
      · intro c48
        refine q_iconst (pc := 69) hG dX0_belief_69 ki_0 ?_
        refine q_lv [1, 3, 0] rfl ?_
        exact J70 0 σ41 (q_r.mono rl_0 (by decide)) hS41
      intro c48
      refine q_aload_n (pc := 51) hG dX0_belief_51 2 rfl ?_
      refine q_bipush (pc := 52) hG dX0_belief_52 kb_108 ?_
      refine q_aload_n (pc := 54) hG dX0_belief_54 1 rfl ?_
      refine q_iload_n (pc := 55) hG dX0_belief_55 3 rfl ?_
      refine q_aload_n (pc := 56) hG dX0_belief_56 1 rfl ?_
      refine q_getI (pc := 57) hG fl_X0_31 dX0_belief_57 hS41.1 tA0 ff_6_17 (fun v57 f57 g57 => ?_)
      have f_2 := (hS41.2 _ _ _ _ tA0 rfl).symm.trans f57
      refine q_iconst (pc := 60) hG dX0_belief_60 ki_0 ?_
      refine q_iload (pc := 61) hG dX0_belief_61 4 rfl ?_
      refine q_cVi (pc := 63) [.int 108, .ref a0, .int x2, .int v57, .int 0, .int p9_s0] [] hG (c_X3_ask τ σ41 a1 108 a0 x2 v57 0 p9_s0 hS41.1 tA1 tA0) my_X3_ask mv_X3_ask w678 dX0_belief_63 tA1 (by decide) rfl rfl (Nat.le_of_ble_eq_true rfl) (by decide) (fun v63 s63 p63 => ?_)
      have w63 := hS41.trans p63.1 rfl
      refine q_goto (pc := 66) 70 hG dX0_belief_66 rfl ?_
      refine q_lv [1, 3, 0] rfl ?_
      exact J70 v63 s63 p63.2.1 w63
    refine q_icmp_ne (pc := 19) hG 26 dX0_belief_19 rfl ?_ ?_
    · intro c19
      refine q_aload_n (pc := 26) hG dX0_belief_26 2 rfl ?_
      refine q_bipush (pc := 27) hG dX0_belief_27 kb_111 ?_
      refine q_aload_n (pc := 29) hG dX0_belief_29 1 rfl ?_
      refine q_iload_n (pc := 30) hG dX0_belief_30 3 rfl ?_
      refine q_aload_n (pc := 31) hG dX0_belief_31 1 rfl ?_
      refine q_getI (pc := 32) hG fl_X0_31 dX0_belief_32 hI tA0 ff_6_17 (fun v32 f32 g32 => ?_)
      refine q_iconst (pc := 35) hG dX0_belief_35 ki_0 ?_
      refine q_iload (pc := 36) hG dX0_belief_36 0 rfl ?_
      refine q_cVi (pc := 38) [.int 111, .ref a0, .int x2, .int v32, .int 0, .int p9_s0] [] hG (c_X3_ask τ σ a1 111 a0 x2 v32 0 p9_s0 hI tA1 tA0) my_X3_ask mv_X3_ask w678 dX0_belief_38 tA1 (by decide) rfl rfl (Nat.le_of_ble_eq_true rfl) (by decide) (fun v38 s38 p38 => ?_)
      have w38 := hS0.trans p38.1 rfl
      refine q_lv [1, 2, 3, 0] rfl ?_
      exact J41 v38 s38 p38.2.1 w38
    intro c19
    refine q_iconst (pc := 22) hG dX0_belief_22 ki_0 ?_
    refine q_goto (pc := 23) 41 hG dX0_belief_23 rfl ?_
    refine q_lv [1, 2, 3, 0] rfl ?_
    exact J41 0 σ (q_r.mono rl_0 (by decide)) hS0
  refine q_if_eq (pc := 1) hG 8 dX0_belief_1 rfl ?_ ?_
  · intro c1
    refine q_iconst (pc := 8) hG dX0_belief_8 ki_0 ?_
    refine q_lv [0, 1, 2] rfl ?_
    exact J9 0 (q_r.mono rl_0 (by decide))
  intro c1
  refine q_iconst (pc := 4) hG dX0_belief_4 ki_1 ?_
  refine q_goto (pc := 5) 9 hG dX0_belief_5 rfl ?_
  refine q_lv [0, 1, 2] rfl ?_
  exact J9 1 (q_r.mono rl_1 (by decide))
theorem dX0_findLost_0 : decode cX0_findLost 0 = .ok (.iconst 0, 1) := by decide +kernel
theorem dX0_findLost_1 : decode cX0_findLost 1 = .ok (.istore 5, 2) := by decide +kernel
theorem dX0_findLost_3 : decode cX0_findLost 3 = .ok (.iconst 0, 1) := by decide +kernel
theorem dX0_findLost_4 : decode cX0_findLost 4 = .ok (.istore 6, 2) := by decide +kernel
theorem dX0_findLost_6 : decode cX0_findLost 6 = .ok (.iload 6, 2) := by decide +kernel
theorem dX0_findLost_8 : decode cX0_findLost 8 = .ok (.aload_n 1, 1) := by decide +kernel
theorem dX0_findLost_9 : decode cX0_findLost 9 = .ok (.getfield 47, 3) := by decide +kernel
theorem dX0_findLost_12 : decode cX0_findLost 12 = .ok (.if_icmp .ge 99, 3) := by decide +kernel
theorem dX0_findLost_15 : decode cX0_findLost 15 = .ok (.aload_n 1, 1) := by decide +kernel
theorem dX0_findLost_16 : decode cX0_findLost 16 = .ok (.iload 6, 2) := by decide +kernel
theorem dX0_findLost_18 : decode cX0_findLost 18 = .ok (.invokevirtual 40, 3) := by decide +kernel
theorem dX0_findLost_21 : decode cX0_findLost 21 = .ok (.ifCond .eq 13, 3) := by decide +kernel
theorem dX0_findLost_24 : decode cX0_findLost 24 = .ok (.aload_n 1, 1) := by decide +kernel
theorem dX0_findLost_25 : decode cX0_findLost 25 = .ok (.getfield 50, 3) := by decide +kernel
theorem dX0_findLost_28 : decode cX0_findLost 28 = .ok (.iload 6, 2) := by decide +kernel
theorem dX0_findLost_30 : decode cX0_findLost 30 = .ok (.iaload, 1) := by decide +kernel
theorem dX0_findLost_31 : decode cX0_findLost 31 = .ok (.goto 10, 3) := by decide +kernel
theorem dX0_findLost_34 : decode cX0_findLost 34 = .ok (.aload_n 1, 1) := by decide +kernel
theorem dX0_findLost_35 : decode cX0_findLost 35 = .ok (.getfield 53, 3) := by decide +kernel
theorem dX0_findLost_38 : decode cX0_findLost 38 = .ok (.iload 6, 2) := by decide +kernel
theorem dX0_findLost_40 : decode cX0_findLost 40 = .ok (.iaload, 1) := by decide +kernel
theorem dX0_findLost_41 : decode cX0_findLost 41 = .ok (.istore 7, 2) := by decide +kernel
theorem dX0_findLost_43 : decode cX0_findLost 43 = .ok (.aload_n 0, 1) := by decide +kernel
theorem dX0_findLost_44 : decode cX0_findLost 44 = .ok (.getfield 9, 3) := by decide +kernel
theorem dX0_findLost_47 : decode cX0_findLost 47 = .ok (.iload 6, 2) := by decide +kernel
theorem dX0_findLost_49 : decode cX0_findLost 49 = .ok (.aload_n 1, 1) := by decide +kernel
theorem dX0_findLost_50 : decode cX0_findLost 50 = .ok (.aload_n 2, 1) := by decide +kernel
theorem dX0_findLost_51 : decode cX0_findLost 51 = .ok (.iload 6, 2) := by decide +kernel
theorem dX0_findLost_53 : decode cX0_findLost 53 = .ok (.iload 4, 2) := by decide +kernel
theorem dX0_findLost_55 : decode cX0_findLost 55 = .ok (.invokestatic 56, 3) := by decide +kernel
theorem dX0_findLost_58 : decode cX0_findLost 58 = .ok (.iconst 1, 1) := by decide +kernel
theorem dX0_findLost_59 : decode cX0_findLost 59 = .ok (.if_icmp .ne 24, 3) := by decide +kernel
theorem dX0_findLost_62 : decode cX0_findLost 62 = .ok (.aload_n 1, 1) := by decide +kernel
theorem dX0_findLost_63 : decode cX0_findLost 63 = .ok (.getfield 25, 3) := by decide +kernel
theorem dX0_findLost_66 : decode cX0_findLost 66 = .ok (.iload 6, 2) := by decide +kernel
theorem dX0_findLost_68 : decode cX0_findLost 68 = .ok (.iaload, 1) := by decide +kernel
theorem dX0_findLost_69 : decode cX0_findLost 69 = .ok (.iload 7, 2) := by decide +kernel
theorem dX0_findLost_71 : decode cX0_findLost 71 = .ok (.isub, 1) := by decide +kernel
theorem dX0_findLost_72 : decode cX0_findLost 72 = .ok (.invokestatic 60, 3) := by decide +kernel
theorem dX0_findLost_75 : decode cX0_findLost 75 = .ok (.iload_n 3, 1) := by decide +kernel
theorem dX0_findLost_76 : decode cX0_findLost 76 = .ok (.if_icmp .le 7, 3) := by decide +kernel
theorem dX0_findLost_79 : decode cX0_findLost 79 = .ok (.iconst 1, 1) := by decide +kernel
theorem dX0_findLost_80 : decode cX0_findLost 80 = .ok (.goto 4, 3) := by decide +kernel
theorem dX0_findLost_83 : decode cX0_findLost 83 = .ok (.iconst 0, 1) := by decide +kernel
theorem dX0_findLost_84 : decode cX0_findLost 84 = .ok (.bastore, 1) := by decide +kernel
theorem dX0_findLost_85 : decode cX0_findLost 85 = .ok (.iload 5, 2) := by decide +kernel
theorem dX0_findLost_87 : decode cX0_findLost 87 = .ok (.aload_n 0, 1) := by decide +kernel
theorem dX0_findLost_88 : decode cX0_findLost 88 = .ok (.getfield 9, 3) := by decide +kernel
theorem dX0_findLost_91 : decode cX0_findLost 91 = .ok (.iload 6, 2) := by decide +kernel
theorem dX0_findLost_93 : decode cX0_findLost 93 = .ok (.baload, 1) := by decide +kernel
theorem dX0_findLost_94 : decode cX0_findLost 94 = .ok (.ifCond .eq 7, 3) := by decide +kernel
theorem dX0_findLost_97 : decode cX0_findLost 97 = .ok (.iconst 1, 1) := by decide +kernel
theorem dX0_findLost_98 : decode cX0_findLost 98 = .ok (.goto 4, 3) := by decide +kernel
theorem dX0_findLost_101 : decode cX0_findLost 101 = .ok (.iconst 0, 1) := by decide +kernel
theorem dX0_findLost_102 : decode cX0_findLost 102 = .ok (.iadd, 1) := by decide +kernel
theorem dX0_findLost_103 : decode cX0_findLost 103 = .ok (.istore 5, 2) := by decide +kernel
theorem dX0_findLost_105 : decode cX0_findLost 105 = .ok (.iinc 6 1, 3) := by decide +kernel
theorem dX0_findLost_108 : decode cX0_findLost 108 = .ok (.goto (-102), 3) := by decide +kernel
theorem dX0_findLost_111 : decode cX0_findLost 111 = .ok (.iload 5, 2) := by decide +kernel
theorem dX0_findLost_113 : decode cX0_findLost 113 = .ok (.ireturn, 1) := by decide +kernel
def md_X0_findLost : List (Nat × Nat) := [(3, 9), (3, 10), (3, 11), (3, 12), (3, 13), (3, 14), (3, 15), (117, 0), (211, 0)]
set_option maxRecDepth 100000 in
set_option maxHeartbeats 4000000 in
theorem c_X0_findLost {l : Launch} {D : q_D} (τ : q_T) (σ : q_V) (a0 : Nat) (a1 : Nat) (a2 : Nat) (x3 : Int32) (x4 : Int32) (hI : q_I τ σ) (tA0 : τ a0 = some (0, 1)) (tA1 : τ a1 = some (6, 1)) (tA2 : τ a2 = some (3, 1)) (rA4 : q_r x4 0 1) : q_Ci l D yX0_findLost cX0_findLost 8 (some .int) 6 145 τ σ [.ref a0, .ref a1, .ref a2, .int x3, .int x4] (fun r σ1 => q_S md_X0_findLost τ σ σ1 ∧ (q_r r (-2147483648) 2147483647)) := by
  refine q_meti rfl (Nat.le_of_ble_eq_true rfl) (fun X hG hE => ?_)
  show q_O X 0 0 τ σ 0 [(0, .ref a0), (1, .ref a1), (2, .ref a2), (3, .int x3), (4, .int x4)] []
  have hS0 : q_S md_X0_findLost τ σ σ := q_S.rf hI
  refine q_iconst (pc := 0) hG dX0_findLost_0 ki_0 ?_
  refine q_istore (pc := 1) [(5, .int 0), (0, .ref a0), (1, .ref a1), (2, .ref a2), (3, .int x3), (4, .int x4)] hG dX0_findLost_1 (by decide) rfl ?_
  refine q_iconst (pc := 3) hG dX0_findLost_3 ki_0 ?_
  refine q_istore (pc := 4) [(6, .int 0), (5, .int 0), (0, .ref a0), (1, .ref a1), (2, .ref a2), (3, .int x3), (4, .int x4)] hG dX0_findLost_4 (by decide) rfl ?_
  have J6 : ∀ (n6 : Nat) (p6_5 : Int32) (p6_6 : Int32) (σ6 : q_V), (q_r p6_6 0 64) → (q_S md_X0_findLost τ σ σ6) → ((64 - p6_6.toInt).toNat < n6) → q_O X 0 0 τ σ6 6 [(0, .ref a0), (1, .ref a1), (2, .ref a2), (3, .int x3), (4, .int x4), (5, .int p6_5), (6, .int p6_6)] [] := by
    intro n6
    induction n6 with
    | zero => intro p6_5 p6_6 σ6 r6_6 hS6 hm6; exact absurd hm6 (Nat.not_lt_zero _)
    | succ n6 ih6 =>
      intro p6_5 p6_6 σ6 r6_6 hS6 hm6
      refine q_iload (pc := 6) hG dX0_findLost_6 6 rfl ?_
      refine q_aload_n (pc := 8) hG dX0_findLost_8 1 rfl ?_
      refine q_getI (pc := 9) hG fl_X0_47 dX0_findLost_9 hS6.1 tA1 ff_6_0 (fun v9 f9 g9 => ?_)
      have f_1 := (hS6.2 _ _ _ _ tA1 rfl).symm.trans f9
      refine q_icmp_ge (pc := 12) hG 111 dX0_findLost_12 rfl ?_ ?_
      · intro c12
        refine q_iload (pc := 111) hG dX0_findLost_111 5 rfl ?_
        exact q_irt hG hE dX0_findLost_113 ⟨hS6, (q_r_any p6_5)⟩
      intro c12
      refine q_aload_n (pc := 15) hG dX0_findLost_15 1 rfl ?_
      refine q_iload (pc := 16) hG dX0_findLost_16 6 rfl ?_
      have r_2 := q_rlt r6_6 g9 c12 63 (by decide)
      refine q_pV (pc := 18) [.int p6_6] [] hG (c_X7_isPainted τ σ6 a1 p6_6 hS6.1 tA1 r_2) my_X7_isPainted mv_X7_isPainted w679 dX0_findLost_18 tA1 (by decide) rfl rfl (Nat.le_of_ble_eq_true rfl) (by decide) (fun v18 p18 => ?_)
      have J41 : ∀ (p41_s0 : Int32), q_O X 0 0 τ σ6 41 [(0, .ref a0), (1, .ref a1), (2, .ref a2), (3, .int x3), (4, .int x4), (5, .int p6_5), (6, .int p6_6)] [.int p41_s0] := by
        intro p41_s0
        refine q_istore (pc := 41) [(7, .int p41_s0), (0, .ref a0), (1, .ref a1), (2, .ref a2), (3, .int x3), (4, .int x4), (5, .int p6_5), (6, .int p6_6)] hG dX0_findLost_41 (by decide) rfl ?_
        refine q_aload_n (pc := 43) hG dX0_findLost_43 1 rfl ?_
        refine q_getR (pc := 44) (k2 := 211) (n2 := 64) hG fl_X0_9 dX0_findLost_44 hS6.1 tA0 ff_0_0 (fun b44 f44 T44 => ?_)
        have f_3 := (hS6.2 _ _ _ _ tA0 rfl).symm.trans f44
        refine q_iload (pc := 47) hG dX0_findLost_47 7 rfl ?_
        refine q_aload_n (pc := 49) hG dX0_findLost_49 2 rfl ?_
        refine q_aload_n (pc := 50) hG dX0_findLost_50 3 rfl ?_
        refine q_iload (pc := 51) hG dX0_findLost_51 7 rfl ?_
        refine q_iload (pc := 53) hG dX0_findLost_53 5 rfl ?_
        refine q_cSi (pc := 55) [.ref a1, .ref a2, .int p6_6, .int x4] [.int p6_6, .ref b44] hG (c_X0_belief τ σ6 a1 a2 p6_6 x4 hS6.1 tA1 tA2 r_2 rA4) my_X0_belief w676 w689 dX0_findLost_55 rfl rfl (Nat.le_of_ble_eq_true rfl) (by decide) (fun v55 s55 p55 => ?_)
        have w55 := hS6.trans p55.1 rfl
        refine q_iconst (pc := 58) hG dX0_findLost_58 ki_1 ?_
        have J84 : ∀ (p84_s0 : Int32), (q_r p84_s0 0 1) → q_O X 0 0 τ s55 84 [(0, .ref a0), (1, .ref a1), (2, .ref a2), (3, .int x3), (4, .int x4), (5, .int p6_5), (6, .int p6_6)] [.int p84_s0, .int p6_6, .ref b44] := by
          intro p84_s0 r84_s0
          refine q_zast (pc := 84) hG dX0_findLost_84 w55 ai_211 T44 (q_ix r_2 (by decide)) r84_s0 rfl (fun s84 u84 w84 => ?_)
          have m84 : s84 b44 p6_6.toInt.toNat = .int p84_s0 := by rw [u84]; exact q_up_same
          refine q_iload (pc := 85) hG dX0_findLost_85 5 rfl ?_
          refine q_aload_n (pc := 87) hG dX0_findLost_87 0 rfl ?_
          refine q_getV (pc := 88) (v := .ref b44) hG fl_X0_9 dX0_findLost_88 tA0 (w84.same tA0 rfl f_3) ?_
          refine q_iload (pc := 91) hG dX0_findLost_91 6 rfl ?_
          refine q_zaldV (pc := 93) (v := .int p84_s0) hG dX0_findLost_93 T44 (by decide) (by decide) (q_ix r_2 (by decide)) m84 ?_
          have J102 : ∀ (p102_s0 : Int32), (q_r p102_s0 0 1) → q_O X 0 0 τ s84 102 [(0, .ref a0), (1, .ref a1), (2, .ref a2), (3, .int x3), (4, .int x4), (6, .int p6_6)] [.int p102_s0, .int p6_5] := by
            intro p102_s0 r102_s0
            refine q_iadd (pc := 102) hG dX0_findLost_102 (fun v102 e102 => ?_)
            refine q_istore (pc := 103) [(5, .int v102), (0, .ref a0), (1, .ref a1), (2, .ref a2), (3, .int x3), (4, .int x4), (6, .int p6_6)] hG dX0_findLost_103 (by decide) rfl ?_
            obtain ⟨v105, e105⟩ : ∃ z : Int32, z = p6_6 + Int32.ofInt 1 := ⟨_, rfl⟩
            have h105 := q_incN (lo := 1) (hi := 64) r_2 (by decide) (by decide) e105
            refine q_iinc (pc := 105) [(6, .int v105), (5, .int v102), (0, .ref a0), (1, .ref a1), (2, .ref a2), (3, .int x3), (4, .int x4)] hG dX0_findLost_105 6 rfl e105 (by decide) rfl ?_
            refine q_goto (pc := 108) 6 hG dX0_findLost_108 rfl ?_
            refine q_lv [2, 3, 4, 5, 6, 1, 0] rfl ?_
            exact ih6 v102 v105 s84 (q_r.mono h105.2 (by decide)) w84 (q_measU hm6 (by have o0 := c12; have o1 := h105.1; have o2 := r_2; have o3 := h105.2; have o4 := g9; unfold q_r at o2 o3 o4; omega) (h105.2).2)
          refine q_if_eq (pc := 94) hG 101 dX0_findLost_94 rfl ?_ ?_
          · intro c94
            refine q_iconst (pc := 101) hG dX0_findLost_101 ki_0 ?_
            refine q_lv [0, 1, 2, 3, 4, 6] rfl ?_
            exact J102 0 (q_r.mono rl_0 (by decide))
          intro c94
          refine q_iconst (pc := 97) hG dX0_findLost_97 ki_1 ?_
          refine q_goto (pc := 98) 102 hG dX0_findLost_98 rfl ?_
          refine q_lv [0, 1, 2, 3, 4, 6] rfl ?_
          exact J102 1 (q_r.mono rl_1 (by decide))
        have J83 : q_O X 0 0 τ s55 83 [(0, .ref a0), (1, .ref a1), (2, .ref a2), (3, .int x3), (4, .int x4), (5, .int p6_5), (6, .int p6_6)] [.int p6_6, .ref b44] := by
          refine q_iconst (pc := 83) hG dX0_findLost_83 ki_0 ?_
          refine q_lv [0, 1, 2, 3, 4, 5, 6] rfl ?_
          exact J84 0 (q_r.mono rl_0 (by decide))
        refine q_icmp_ne (pc := 59) hG 83 dX0_findLost_59 rfl ?_ ?_
        · intro c59
          refine q_lv [1, 2, 3, 4, 5, 6, 7] rfl ?_
          exact J83 
        intro c59
        refine q_aload_n (pc := 62) hG dX0_findLost_62 2 rfl ?_
        refine q_getR (pc := 63) (k2 := 119) (n2 := 64) hG fl_X0_25 dX0_findLost_63 w55.1 tA1 ff_6_4 (fun b63 f63 T63 => ?_)
        have f_4 := (w55.2 _ _ _ _ tA1 rfl).symm.trans f63
        refine q_iload (pc := 66) hG dX0_findLost_66 7 rfl ?_
        refine q_iald (pc := 68) hG dX0_findLost_68 w55.1 ai_119 T63 (q_ix r_2 (by decide)) (fun v68 f68 g68 => ?_)
        have f_5 := (w55.2 _ _ _ _ T63 rfl).symm.trans f68
        refine q_iload (pc := 69) hG dX0_findLost_69 0 rfl ?_
        refine q_isub (pc := 71) hG dX0_findLost_71 (fun v71 e71 => ?_)
        refine q_pS (pc := 72) [.int v71] [.int p6_6, .ref b44] hG (c_J9_abs_0f7a4 τ s55 v71 w55.1) my_J9_abs_0f7a4 w271 w690 dX0_findLost_72 rfl rfl (Nat.le_of_ble_eq_true rfl) (by decide) (fun v72 p72 => ?_)
        refine q_iload_n (pc := 75) hG dX0_findLost_75 4 rfl ?_
        refine q_icmp_le (pc := 76) hG 83 dX0_findLost_76 rfl ?_ ?_
        · intro c76
          refine q_lv [1, 2, 3, 4, 5, 6, 7] rfl ?_
          exact J83 
        intro c76
        refine q_iconst (pc := 79) hG dX0_findLost_79 ki_1 ?_
        refine q_goto (pc := 80) 84 hG dX0_findLost_80 rfl ?_
        refine q_lv [1, 2, 3, 4, 5, 6, 7] rfl ?_
        exact J84 1 (q_r.mono rl_1 (by decide))
      refine q_if_eq (pc := 21) hG 34 dX0_findLost_21 rfl ?_ ?_
      · intro c21
        refine q_aload_n (pc := 34) hG dX0_findLost_34 1 rfl ?_
        refine q_getR (pc := 35) (k2 := 118) (n2 := 64) hG fl_X0_53 dX0_findLost_35 hS6.1 tA1 ff_6_1 (fun b35 f35 T35 => ?_)
        have f_6 := (hS6.2 _ _ _ _ tA1 rfl).symm.trans f35
        refine q_iload (pc := 38) hG dX0_findLost_38 6 rfl ?_
        refine q_iald (pc := 40) hG dX0_findLost_40 hS6.1 ai_118 T35 (q_ix r_2 (by decide)) (fun v40 f40 g40 => ?_)
        have f_7 := (hS6.2 _ _ _ _ T35 rfl).symm.trans f40
        refine q_lv [0, 1, 2, 3, 4, 5, 6] rfl ?_
        exact J41 v40
      intro c21
      refine q_aload_n (pc := 24) hG dX0_findLost_24 1 rfl ?_
      refine q_getR (pc := 25) (k2 := 120) (n2 := 64) hG fl_X0_50 dX0_findLost_25 hS6.1 tA1 ff_6_5 (fun b25 f25 T25 => ?_)
      have f_8 := (hS6.2 _ _ _ _ tA1 rfl).symm.trans f25
      refine q_iload (pc := 28) hG dX0_findLost_28 6 rfl ?_
      refine q_iald (pc := 30) hG dX0_findLost_30 hS6.1 ai_120 T25 (q_ix r_2 (by decide)) (fun v30 f30 g30 => ?_)
      have f_9 := (hS6.2 _ _ _ _ T25 rfl).symm.trans f30
      refine q_goto (pc := 31) 41 hG dX0_findLost_31 rfl ?_
      refine q_lv [0, 1, 2, 3, 4, 5, 6] rfl ?_
      exact J41 v30
  refine q_lv [2, 3, 4, 5, 6, 1, 0] rfl ?_
  exact J6 _ 0 0 σ (q_r.mono rl_0 (by decide)) hS0 (Nat.lt_succ_self _)
theorem dX0_lostIn_0 : decode cX0_lostIn 0 = .ok (.iconst 0, 1) := by decide +kernel
theorem dX0_lostIn_1 : decode cX0_lostIn 1 = .ok (.istore_n 3, 1) := by decide +kernel
theorem dX0_lostIn_2 : decode cX0_lostIn 2 = .ok (.iload_n 1, 1) := by decide +kernel
theorem dX0_lostIn_3 : decode cX0_lostIn 3 = .ok (.istore 4, 2) := by decide +kernel
theorem dX0_lostIn_5 : decode cX0_lostIn 5 = .ok (.iload 4, 2) := by decide +kernel
theorem dX0_lostIn_7 : decode cX0_lostIn 7 = .ok (.iload_n 1, 1) := by decide +kernel
theorem dX0_lostIn_8 : decode cX0_lostIn 8 = .ok (.iload_n 2, 1) := by decide +kernel
theorem dX0_lostIn_9 : decode cX0_lostIn 9 = .ok (.iadd, 1) := by decide +kernel
theorem dX0_lostIn_10 : decode cX0_lostIn 10 = .ok (.if_icmp .ge 34, 3) := by decide +kernel
theorem dX0_lostIn_13 : decode cX0_lostIn 13 = .ok (.iload 4, 2) := by decide +kernel
theorem dX0_lostIn_15 : decode cX0_lostIn 15 = .ok (.bipush 64, 2) := by decide +kernel
theorem dX0_lostIn_17 : decode cX0_lostIn 17 = .ok (.if_icmp .ge 27, 3) := by decide +kernel
theorem dX0_lostIn_20 : decode cX0_lostIn 20 = .ok (.iload_n 3, 1) := by decide +kernel
theorem dX0_lostIn_21 : decode cX0_lostIn 21 = .ok (.aload_n 0, 1) := by decide +kernel
theorem dX0_lostIn_22 : decode cX0_lostIn 22 = .ok (.getfield 9, 3) := by decide +kernel
theorem dX0_lostIn_25 : decode cX0_lostIn 25 = .ok (.iload 4, 2) := by decide +kernel
theorem dX0_lostIn_27 : decode cX0_lostIn 27 = .ok (.baload, 1) := by decide +kernel
theorem dX0_lostIn_28 : decode cX0_lostIn 28 = .ok (.ifCond .eq 7, 3) := by decide +kernel
theorem dX0_lostIn_31 : decode cX0_lostIn 31 = .ok (.iconst 1, 1) := by decide +kernel
theorem dX0_lostIn_32 : decode cX0_lostIn 32 = .ok (.goto 4, 3) := by decide +kernel
theorem dX0_lostIn_35 : decode cX0_lostIn 35 = .ok (.iconst 0, 1) := by decide +kernel
theorem dX0_lostIn_36 : decode cX0_lostIn 36 = .ok (.iadd, 1) := by decide +kernel
theorem dX0_lostIn_37 : decode cX0_lostIn 37 = .ok (.istore_n 3, 1) := by decide +kernel
theorem dX0_lostIn_38 : decode cX0_lostIn 38 = .ok (.iinc 4 1, 3) := by decide +kernel
theorem dX0_lostIn_41 : decode cX0_lostIn 41 = .ok (.goto (-36), 3) := by decide +kernel
theorem dX0_lostIn_44 : decode cX0_lostIn 44 = .ok (.iload_n 3, 1) := by decide +kernel
theorem dX0_lostIn_45 : decode cX0_lostIn 45 = .ok (.ireturn, 1) := by decide +kernel
set_option maxRecDepth 100000 in
set_option maxHeartbeats 4000000 in
theorem c_X0_lostIn {l : Launch} {D : q_D} (τ : q_T) (σ : q_V) (a0 : Nat) (x1 : Int32) (x2 : Int32) (hI : q_I τ σ) (tA0 : τ a0 = some (0, 1)) (rA1 : q_r x1 0 64) (rA2 : q_r x2 0 64) : q_Cp l D yX0_lostIn cX0_lostIn 5 (some .int) 0 0 τ σ [.ref a0, .int x1, .int x2] (fun r => q_r r (-2147483648) 2147483647) := by
  refine q_meti rfl (Nat.le_of_ble_eq_true rfl) (fun X hG hE => ?_)
  show q_O X 0 0 τ σ 0 [(0, .ref a0), (1, .int x1), (2, .int x2)] []
  refine q_iconst (pc := 0) hG dX0_lostIn_0 ki_0 ?_
  refine q_istore_n (pc := 1) [(3, .int 0), (0, .ref a0), (1, .int x1), (2, .int x2)] hG dX0_lostIn_1 (by decide) rfl ?_
  refine q_iload_n (pc := 2) hG dX0_lostIn_2 2 rfl ?_
  refine q_istore (pc := 3) [(4, .int x1), (3, .int 0), (0, .ref a0), (1, .int x1), (2, .int x2)] hG dX0_lostIn_3 (by decide) rfl ?_
  have J5 : ∀ (n5 : Nat) (p5_3 : Int32) (p5_4 : Int32), (q_r p5_4 0 64) → ((64 - p5_4.toInt).toNat < n5) → q_O X 0 0 τ σ 5 [(0, .ref a0), (1, .int x1), (2, .int x2), (3, .int p5_3), (4, .int p5_4)] [] := by
    intro n5
    induction n5 with
    | zero => intro p5_3 p5_4 r5_4 hm5; exact absurd hm5 (Nat.not_lt_zero _)
    | succ n5 ih5 =>
      intro p5_3 p5_4 r5_4 hm5
      refine q_iload (pc := 5) hG dX0_lostIn_5 4 rfl ?_
      refine q_iload_n (pc := 7) hG dX0_lostIn_7 1 rfl ?_
      refine q_iload_n (pc := 8) hG dX0_lostIn_8 2 rfl ?_
      refine q_iadd (pc := 9) hG dX0_lostIn_9 (fun v9 e9 => ?_)
      refine q_icmp_ge (pc := 10) hG 44 dX0_lostIn_10 rfl ?_ ?_
      · intro c10
        have r_1 := (q_addN (lo := 0) (hi := 128) e9 rA1 rA2 (by decide)).2
        refine q_iload_n (pc := 44) hG dX0_lostIn_44 3 rfl ?_
        exact q_irt hG hE dX0_lostIn_45 ⟨rfl, (q_r_any p5_3)⟩
      intro c10
      have r_2 := (q_addN (lo := 0) (hi := 128) e9 rA1 rA2 (by decide)).2
      refine q_iload (pc := 13) hG dX0_lostIn_13 4 rfl ?_
      refine q_bipush (pc := 15) hG dX0_lostIn_15 kb_64 ?_
      refine q_icmp_ge (pc := 17) hG 44 dX0_lostIn_17 rfl ?_ ?_
      · intro c17
        refine q_iload_n (pc := 44) hG dX0_lostIn_44 3 rfl ?_
        exact q_irt hG hE dX0_lostIn_45 ⟨rfl, (q_r_any p5_3)⟩
      intro c17
      refine q_iload_n (pc := 20) hG dX0_lostIn_20 3 rfl ?_
      refine q_aload_n (pc := 21) hG dX0_lostIn_21 0 rfl ?_
      refine q_getR (pc := 22) (k2 := 211) (n2 := 64) hG fl_X0_9 dX0_lostIn_22 hI tA0 ff_0_0 (fun b22 f22 T22 => ?_)
      refine q_iload (pc := 25) hG dX0_lostIn_25 4 rfl ?_
      have r_3 := q_rlt r5_4 rl_64 c17 63 (by decide)
      refine q_zald (pc := 27) hG dX0_lostIn_27 hI ai_211 T22 (q_ix r_3 (by decide)) (fun v27 f27 g27 => ?_)
      have J36 : ∀ (p36_s0 : Int32), (q_r p36_s0 0 1) → q_O X 0 0 τ σ 36 [(0, .ref a0), (1, .int x1), (2, .int x2), (4, .int p5_4)] [.int p36_s0, .int p5_3] := by
        intro p36_s0 r36_s0
        refine q_iadd (pc := 36) hG dX0_lostIn_36 (fun v36 e36 => ?_)
        refine q_istore_n (pc := 37) [(3, .int v36), (0, .ref a0), (1, .int x1), (2, .int x2), (4, .int p5_4)] hG dX0_lostIn_37 (by decide) rfl ?_
        obtain ⟨v38, e38⟩ : ∃ z : Int32, z = p5_4 + Int32.ofInt 1 := ⟨_, rfl⟩
        have h38 := q_incN (lo := 1) (hi := 64) r_3 (by decide) (by decide) e38
        refine q_iinc (pc := 38) [(4, .int v38), (3, .int v36), (0, .ref a0), (1, .int x1), (2, .int x2)] hG dX0_lostIn_38 4 rfl e38 (by decide) rfl ?_
        refine q_goto (pc := 41) 5 hG dX0_lostIn_41 rfl ?_
        refine q_lv [2, 3, 4, 1, 0] rfl ?_
        have r_4 := q_rgt r_2 r5_4 c10 1 (by decide)
        exact ih5 v36 v38 (q_r.mono h38.2 (by decide)) (q_measU hm5 (by have o0 := c10; have o1 := c17; have o2 := h38.1; have o3 := (q_addN (lo := 0) (hi := 128) e9 rA1 rA2 (by decide)).1; have o4 := r_3; have o5 := h38.2; have o6 := r_4; have o7 := rA1; have o8 := rA2; have l9 := tl_64; unfold q_r at o4 o5 o6 o7 o8; omega) (h38.2).2)
      refine q_if_eq (pc := 28) hG 35 dX0_lostIn_28 rfl ?_ ?_
      · intro c28
        refine q_iconst (pc := 35) hG dX0_lostIn_35 ki_0 ?_
        refine q_lv [0, 1, 2, 4] rfl ?_
        exact J36 0 (q_r.mono rl_0 (by decide))
      intro c28
      refine q_iconst (pc := 31) hG dX0_lostIn_31 ki_1 ?_
      refine q_goto (pc := 32) 36 hG dX0_lostIn_32 rfl ?_
      refine q_lv [0, 1, 2, 4] rfl ?_
      exact J36 1 (q_r.mono rl_1 (by decide))
  refine q_lv [2, 3, 4, 1, 0] rfl ?_
  exact J5 _ 0 x1 rA1 (Nat.lt_succ_self _)
theorem dX0_note_0 : decode cX0_note 0 = .ok (.aload_n 0, 1) := by decide +kernel
theorem dX0_note_1 : decode cX0_note 1 = .ok (.getfield 15, 3) := by decide +kernel
theorem dX0_note_4 : decode cX0_note 4 = .ok (.ifCond .eq 11, 3) := by decide +kernel
theorem dX0_note_7 : decode cX0_note 7 = .ok (.iload_n 1, 1) := by decide +kernel
theorem dX0_note_8 : decode cX0_note 8 = .ok (.aload_n 0, 1) := by decide +kernel
theorem dX0_note_9 : decode cX0_note 9 = .ok (.getfield 19, 3) := by decide +kernel
theorem dX0_note_12 : decode cX0_note 12 = .ok (.if_icmp .ge 13, 3) := by decide +kernel
theorem dX0_note_15 : decode cX0_note 15 = .ok (.aload_n 0, 1) := by decide +kernel
theorem dX0_note_16 : decode cX0_note 16 = .ok (.iload_n 1, 1) := by decide +kernel
theorem dX0_note_17 : decode cX0_note 17 = .ok (.putfield 19, 3) := by decide +kernel
theorem dX0_note_20 : decode cX0_note 20 = .ok (.aload_n 0, 1) := by decide +kernel
theorem dX0_note_21 : decode cX0_note 21 = .ok (.iload_n 2, 1) := by decide +kernel
theorem dX0_note_22 : decode cX0_note 22 = .ok (.putfield 22, 3) := by decide +kernel
theorem dX0_note_25 : decode cX0_note 25 = .ok (.aload_n 0, 1) := by decide +kernel
theorem dX0_note_26 : decode cX0_note 26 = .ok (.dup, 1) := by decide +kernel
theorem dX0_note_27 : decode cX0_note 27 = .ok (.getfield 15, 3) := by decide +kernel
theorem dX0_note_30 : decode cX0_note 30 = .ok (.iload_n 3, 1) := by decide +kernel
theorem dX0_note_31 : decode cX0_note 31 = .ok (.iadd, 1) := by decide +kernel
theorem dX0_note_32 : decode cX0_note 32 = .ok (.putfield 15, 3) := by decide +kernel
theorem dX0_note_35 : decode cX0_note 35 = .ok (.return_, 1) := by decide +kernel
def md_X0_note : List (Nat × Nat) := [(0, 1), (0, 2), (0, 3)]
set_option maxRecDepth 100000 in
set_option maxHeartbeats 4000000 in
theorem c_X0_note {l : Launch} {D : q_D} (τ : q_T) (σ : q_V) (a0 : Nat) (x1 : Int32) (x2 : Int32) (x3 : Int32) (hI : q_I τ σ) (tA0 : τ a0 = some (0, 1)) : q_Cv l D yX0_note cX0_note 4 none 0 0 τ σ [.ref a0, .int x1, .int x2, .int x3] (fun σ1 => q_S md_X0_note τ σ σ1 ∧ (fx_N σ1 = f_X0_note (fx_N σ) a0 x1.toInt x2.toInt x3.toInt)) := by
  refine q_metv rfl (Nat.le_of_ble_eq_true rfl) (fun X hG hE => ?_)
  show q_O X 0 0 τ σ 0 [(0, .ref a0), (1, .int x1), (2, .int x2), (3, .int x3)] []
  have hS0 : q_S md_X0_note τ σ σ := q_S.rf hI
  obtain ⟨Fv, hF⟩ : ∃ z, fx_eq z (f_X0_note (fx_N σ) a0 x1.toInt x2.toInt x3.toInt) := ⟨_, fx_rf⟩
  have hF0 := hF
  unfold f_X0_note at hF
  refine q_aload_n (pc := 0) hG dX0_note_0 0 rfl ?_
  refine q_getI (pc := 1) hG fl_X0_15 dX0_note_1 hI tA0 ff_0_1 (fun v1 f1 g1 => ?_)
  replace hF := fx_I hF f1 rfl
  have J25 : ∀ (σ25 : q_V), (q_S md_X0_note τ σ σ25) → (fx_eq Fv (kJ_X0_note_25 a0 x3.toInt (fx_N σ25))) → q_O X 0 0 τ σ25 25 [(0, .ref a0), (3, .int x3)] [] := by
    intro σ25 hS25 hF
    unfold kJ_X0_note_25 at hF
    refine q_aload_n (pc := 25) hG dX0_note_25 0 rfl ?_
    refine q_dup (pc := 26) hG dX0_note_26 rfl ?_
    refine q_getI (pc := 27) hG fl_X0_15 dX0_note_27 hS25.1 tA0 ff_0_1 (fun v27 f27 g27 => ?_)
    replace hF := fx_I hF f27 rfl
    refine q_iload_n (pc := 30) hG dX0_note_30 1 rfl ?_
    refine q_iadd (pc := 31) hG dX0_note_31 (fun v31 e31 => ?_)
    replace hF := fx_B_add hF rfl rfl e31
    refine q_putI (pc := 32) hG fl_X0_15 dX0_note_32 hS25 tA0 ff_0_1 (q_r_any v31) (by decide) rfl (fun s32 u32 w32 => ?_)
    replace hF := fx_P hF u32 rfl rfl
    have m32 : s32 a0 1 = .int v31 := by rw [u32]; exact q_up_same
    exact q_vrt hG hE dX0_note_35 ⟨w32, (fx_end hF hF0)⟩
  have J15 : (fx_eq Fv (kJ_X0_note_15 (fx_N σ) a0 x1.toInt x2.toInt x3.toInt)) → q_O X 0 0 τ σ 15 [(0, .ref a0), (1, .int x1), (2, .int x2), (3, .int x3)] [] := by
    intro hF
    unfold kJ_X0_note_15 at hF
    refine q_aload_n (pc := 15) hG dX0_note_15 0 rfl ?_
    refine q_iload_n (pc := 16) hG dX0_note_16 1 rfl ?_
    refine q_putI (pc := 17) hG fl_X0_19 dX0_note_17 hS0 tA0 ff_0_2 (q_r_any x1) (by decide) rfl (fun s17 u17 w17 => ?_)
    replace hF := fx_P hF u17 rfl rfl
    have m17 : s17 a0 2 = .int x1 := by rw [u17]; exact q_up_same
    refine q_aload_n (pc := 20) hG dX0_note_20 0 rfl ?_
    refine q_iload_n (pc := 21) hG dX0_note_21 2 rfl ?_
    refine q_putI (pc := 22) hG fl_X0_22 dX0_note_22 w17 tA0 ff_0_3 (q_r_any x2) (by decide) rfl (fun s22 u22 w22 => ?_)
    replace hF := fx_P hF u22 rfl rfl
    have m22 : s22 a0 3 = .int x2 := by rw [u22]; exact q_up_same
    refine q_lv [0, 3] rfl ?_
    exact J25 s22 w22 hF
  refine q_if_eq (pc := 4) hG 15 dX0_note_4 rfl ?_ ?_
  · intro c4
    replace hF := fx_eq1 hF rfl rfl c4
    refine q_lv [0, 1, 2, 3] rfl ?_
    exact J15 hF
  intro c4
  replace hF := fx_eq2 hF rfl rfl c4
  refine q_iload_n (pc := 7) hG dX0_note_7 1 rfl ?_
  refine q_aload_n (pc := 8) hG dX0_note_8 0 rfl ?_
  refine q_getI (pc := 9) hG fl_X0_19 dX0_note_9 hI tA0 ff_0_2 (fun v9 f9 g9 => ?_)
  replace hF := fx_I hF f9 rfl
  refine q_icmp_ge (pc := 12) hG 25 dX0_note_12 rfl ?_ ?_
  · intro c12
    replace hF := fx_lt2 hF rfl rfl c12
    refine q_lv [0, 3] rfl ?_
    exact J25 σ hS0 hF
  intro c12
  replace hF := fx_lt1 hF rfl rfl c12
  refine q_lv [0, 1, 2, 3] rfl ?_
  exact J15 hF
theorem dX0_isHitByCar_0 : decode cX0_isHitByCar 0 = .ok (.aload_n 0, 1) := by decide +kernel
theorem dX0_isHitByCar_1 : decode cX0_isHitByCar 1 = .ok (.iload_n 1, 1) := by decide +kernel
theorem dX0_isHitByCar_2 : decode cX0_isHitByCar 2 = .ok (.invokevirtual 40, 3) := by decide +kernel
theorem dX0_isHitByCar_5 : decode cX0_isHitByCar 5 = .ok (.ifCond .eq 22, 3) := by decide +kernel
theorem dX0_isHitByCar_8 : decode cX0_isHitByCar 8 = .ok (.aload_n 0, 1) := by decide +kernel
theorem dX0_isHitByCar_9 : decode cX0_isHitByCar 9 = .ok (.getfield 99, 3) := by decide +kernel
theorem dX0_isHitByCar_12 : decode cX0_isHitByCar 12 = .ok (.iload_n 1, 1) := by decide +kernel
theorem dX0_isHitByCar_13 : decode cX0_isHitByCar 13 = .ok (.iaload, 1) := by decide +kernel
theorem dX0_isHitByCar_14 : decode cX0_isHitByCar 14 = .ok (.iconst 0, 1) := by decide +kernel
theorem dX0_isHitByCar_15 : decode cX0_isHitByCar 15 = .ok (.bipush 11, 2) := by decide +kernel
theorem dX0_isHitByCar_17 : decode cX0_isHitByCar 17 = .ok (.invokestatic 102, 3) := by decide +kernel
theorem dX0_isHitByCar_20 : decode cX0_isHitByCar 20 = .ok (.ifCond .eq 7, 3) := by decide +kernel
theorem dX0_isHitByCar_23 : decode cX0_isHitByCar 23 = .ok (.iconst 1, 1) := by decide +kernel
theorem dX0_isHitByCar_24 : decode cX0_isHitByCar 24 = .ok (.goto 4, 3) := by decide +kernel
theorem dX0_isHitByCar_27 : decode cX0_isHitByCar 27 = .ok (.iconst 0, 1) := by decide +kernel
theorem dX0_isHitByCar_28 : decode cX0_isHitByCar 28 = .ok (.ireturn, 1) := by decide +kernel
set_option maxRecDepth 100000 in
set_option maxHeartbeats 4000000 in
theorem c_X0_isHitByCar {l : Launch} {D : q_D} (τ : q_T) (σ : q_V) (a0 : Nat) (x1 : Int32) (hI : q_I τ σ) (tA0 : τ a0 = some (6, 1)) (rA1 : q_r x1 0 63) : q_Cp l D yX0_isHitByCar cX0_isHitByCar 2 (some .boolean) 1 22 τ σ [.ref a0, .int x1] (fun r => (q_r r 0 1) ∧ (r.toInt = f_X0_isHitByCar (fx_N σ) a0 x1.toInt)) := by
  refine q_meti rfl (Nat.le_of_ble_eq_true rfl) (fun X hG hE => ?_)
  show q_O X 0 0 τ σ 0 [(0, .ref a0), (1, .int x1)] []
  obtain ⟨Fv, hF⟩ : ∃ z, fx_eq z (f_X0_isHitByCar (fx_N σ) a0 x1.toInt) := ⟨_, fx_rf⟩
  have hF0 := hF
  unfold f_X0_isHitByCar at hF
  refine q_aload_n (pc := 0) hG dX0_isHitByCar_0 0 rfl ?_
  refine q_iload_n (pc := 1) hG dX0_isHitByCar_1 1 rfl ?_
  refine q_pV (pc := 2) [.int x1] [] hG (c_X7_isPainted τ σ a0 x1 hI tA0 rA1) my_X7_isPainted mv_X7_isPainted w679 dX0_isHitByCar_2 tA0 (by decide) rfl rfl (Nat.le_of_ble_eq_true rfl) (by decide) (fun v2 p2 => ?_)
  replace hF := fx_E hF p2.2
  refine q_if_eq (pc := 5) hG 27 dX0_isHitByCar_5 rfl ?_ ?_
  · intro c5
    replace hF := fx_eq1 hF rfl rfl c5
    refine q_iconst (pc := 27) hG dX0_isHitByCar_27 ki_0 ?_
    exact q_zrt hG hE dX0_isHitByCar_28 (q_r.mono rl_0 (by decide)) ⟨rfl, (q_r.mono rl_0 (by decide)), (by rw [tl_0]; exact fx_end hF hF0)⟩
  intro c5
  replace hF := fx_eq2 hF rfl rfl c5
  refine q_aload_n (pc := 8) hG dX0_isHitByCar_8 0 rfl ?_
  refine q_getR (pc := 9) (k2 := 123) (n2 := 64) hG fl_X0_99 dX0_isHitByCar_9 hI tA0 ff_6_8 (fun b9 f9 T9 => ?_)
  replace hF := fx_R hF f9 rfl
  refine q_iload_n (pc := 12) hG dX0_isHitByCar_12 1 rfl ?_
  refine q_iald (pc := 13) hG dX0_isHitByCar_13 hI ai_123 T9 (q_ix rA1 (by decide)) (fun v13 f13 g13 => ?_)
  replace hF := fx_I hF f13 rfl
  refine q_iconst (pc := 14) hG dX0_isHitByCar_14 ki_0 ?_
  refine q_bipush (pc := 15) hG dX0_isHitByCar_15 kb_11 ?_
  refine q_pN (pc := 17) [.int v13, .int 0, .int 11] [] hG (c_X11_isIn τ σ v13 0 11 hI) my_X11_isIn w238 nw_17 dX0_isHitByCar_17 rfl rfl (Nat.le_of_ble_eq_true rfl) (by decide) (fun v17 p17 => ?_)
  have fq17 := p17.2.1
  rewrite [tl_0, tl_11] at fq17
  replace hF := fx_E hF fq17
  refine q_if_eq (pc := 20) hG 27 dX0_isHitByCar_20 rfl ?_ ?_
  · intro c20
    replace hF := fx_eq1 hF rfl rfl c20
    refine q_iconst (pc := 27) hG dX0_isHitByCar_27 ki_0 ?_
    exact q_zrt hG hE dX0_isHitByCar_28 (q_r.mono rl_0 (by decide)) ⟨rfl, (q_r.mono rl_0 (by decide)), (by rw [tl_0]; exact fx_end hF hF0)⟩
  intro c20
  have g_1 := p17.2.2.mp (q_one p17.1 c20)
  have r_2 := q_rge g13 rl_0 g_1.1
  replace hF := fx_eq2 hF rfl rfl c20
  refine q_iconst (pc := 23) hG dX0_isHitByCar_23 ki_1 ?_
  refine q_goto (pc := 24) 28 hG dX0_isHitByCar_24 rfl ?_
  exact q_zrt hG hE dX0_isHitByCar_28 (q_r.mono rl_1 (by decide)) ⟨rfl, (q_r.mono rl_1 (by decide)), (by rw [tl_1]; exact fx_end hF hF0)⟩
theorem dX0_mustBeSpared_0 : decode cX0_mustBeSpared 0 = .ok (.aload_n 0, 1) := by decide +kernel
theorem dX0_mustBeSpared_1 : decode cX0_mustBeSpared 1 = .ok (.iload_n 1, 1) := by decide +kernel
theorem dX0_mustBeSpared_2 : decode cX0_mustBeSpared 2 = .ok (.invokevirtual 40, 3) := by decide +kernel
theorem dX0_mustBeSpared_5 : decode cX0_mustBeSpared 5 = .ok (.ifCond .eq 24, 3) := by decide +kernel
theorem dX0_mustBeSpared_8 : decode cX0_mustBeSpared 8 = .ok (.aload_n 0, 1) := by decide +kernel
theorem dX0_mustBeSpared_9 : decode cX0_mustBeSpared 9 = .ok (.iload_n 1, 1) := by decide +kernel
theorem dX0_mustBeSpared_10 : decode cX0_mustBeSpared 10 = .ok (.invokestatic 70, 3) := by decide +kernel
theorem dX0_mustBeSpared_13 : decode cX0_mustBeSpared 13 = .ok (.ifCond .ne 16, 3) := by decide +kernel
theorem dX0_mustBeSpared_16 : decode cX0_mustBeSpared 16 = .ok (.aload_n 0, 1) := by decide +kernel
theorem dX0_mustBeSpared_17 : decode cX0_mustBeSpared 17 = .ok (.getfield 82, 3) := by decide +kernel
theorem dX0_mustBeSpared_20 : decode cX0_mustBeSpared 20 = .ok (.iload_n 1, 1) := by decide +kernel
theorem dX0_mustBeSpared_21 : decode cX0_mustBeSpared 21 = .ok (.iaload, 1) := by decide +kernel
theorem dX0_mustBeSpared_22 : decode cX0_mustBeSpared 22 = .ok (.ifCond .le 7, 3) := by decide +kernel
theorem dX0_mustBeSpared_25 : decode cX0_mustBeSpared 25 = .ok (.iconst 1, 1) := by decide +kernel
theorem dX0_mustBeSpared_26 : decode cX0_mustBeSpared 26 = .ok (.goto 4, 3) := by decide +kernel
theorem dX0_mustBeSpared_29 : decode cX0_mustBeSpared 29 = .ok (.iconst 0, 1) := by decide +kernel
theorem dX0_mustBeSpared_30 : decode cX0_mustBeSpared 30 = .ok (.ireturn, 1) := by decide +kernel
set_option maxRecDepth 100000 in
set_option maxHeartbeats 4000000 in
theorem c_X0_mustBeSpared {l : Launch} {D : q_D} (τ : q_T) (σ : q_V) (a0 : Nat) (x1 : Int32) (hI : q_I τ σ) (tA0 : τ a0 = some (6, 1)) (rA1 : q_r x1 0 63) : q_Cp l D yX0_mustBeSpared cX0_mustBeSpared 2 (some .boolean) 2 43 τ σ [.ref a0, .int x1] (fun r => (q_r r 0 1) ∧ (r.toInt = f_X0_mustBeSpared (fx_N σ) a0 x1.toInt)) := by
  refine q_meti rfl (Nat.le_of_ble_eq_true rfl) (fun X hG hE => ?_)
  show q_O X 0 0 τ σ 0 [(0, .ref a0), (1, .int x1)] []
  obtain ⟨Fv, hF⟩ : ∃ z, fx_eq z (f_X0_mustBeSpared (fx_N σ) a0 x1.toInt) := ⟨_, fx_rf⟩
  have hF0 := hF
  unfold f_X0_mustBeSpared at hF
  refine q_aload_n (pc := 0) hG dX0_mustBeSpared_0 0 rfl ?_
  refine q_iload_n (pc := 1) hG dX0_mustBeSpared_1 1 rfl ?_
  refine q_pV (pc := 2) [.int x1] [] hG (c_X7_isPainted τ σ a0 x1 hI tA0 rA1) my_X7_isPainted mv_X7_isPainted w679 dX0_mustBeSpared_2 tA0 (by decide) rfl rfl (Nat.le_of_ble_eq_true rfl) (by decide) (fun v2 p2 => ?_)
  replace hF := fx_E hF p2.2
  refine q_if_eq (pc := 5) hG 29 dX0_mustBeSpared_5 rfl ?_ ?_
  · intro c5
    replace hF := fx_eq1 hF rfl rfl c5
    refine q_iconst (pc := 29) hG dX0_mustBeSpared_29 ki_0 ?_
    exact q_zrt hG hE dX0_mustBeSpared_30 (q_r.mono rl_0 (by decide)) ⟨rfl, (q_r.mono rl_0 (by decide)), (by rw [tl_0]; exact fx_end hF hF0)⟩
  intro c5
  replace hF := fx_eq2 hF rfl rfl c5
  refine q_aload_n (pc := 8) hG dX0_mustBeSpared_8 0 rfl ?_
  refine q_iload_n (pc := 9) hG dX0_mustBeSpared_9 1 rfl ?_
  refine q_pS (pc := 10) [.ref a0, .int x1] [] hG (c_X0_isHitByCar τ σ a0 x1 hI tA0 rA1) my_X0_isHitByCar w732 w731 dX0_mustBeSpared_10 rfl rfl (Nat.le_of_ble_eq_true rfl) (by decide) (fun v10 p10 => ?_)
  replace hF := fx_E hF p10.2
  refine q_if_ne (pc := 13) hG 29 dX0_mustBeSpared_13 rfl ?_ ?_
  · intro c13
    replace hF := fx_eq2 hF rfl rfl c13
    refine q_iconst (pc := 29) hG dX0_mustBeSpared_29 ki_0 ?_
    exact q_zrt hG hE dX0_mustBeSpared_30 (q_r.mono rl_0 (by decide)) ⟨rfl, (q_r.mono rl_0 (by decide)), (by rw [tl_0]; exact fx_end hF hF0)⟩
  intro c13
  replace hF := fx_eq1 hF rfl rfl c13
  refine q_aload_n (pc := 16) hG dX0_mustBeSpared_16 0 rfl ?_
  refine q_getR (pc := 17) (k2 := 122) (n2 := 64) hG fl_X0_82 dX0_mustBeSpared_17 hI tA0 ff_6_7 (fun b17 f17 T17 => ?_)
  replace hF := fx_R hF f17 rfl
  refine q_iload_n (pc := 20) hG dX0_mustBeSpared_20 1 rfl ?_
  refine q_iald (pc := 21) hG dX0_mustBeSpared_21 hI ai_122 T17 (q_ix rA1 (by decide)) (fun v21 f21 g21 => ?_)
  replace hF := fx_I hF f21 rfl
  refine q_if_le (pc := 22) hG 29 dX0_mustBeSpared_22 rfl ?_ ?_
  · intro c22
    replace hF := fx_lt2 hF rfl rfl c22
    refine q_iconst (pc := 29) hG dX0_mustBeSpared_29 ki_0 ?_
    exact q_zrt hG hE dX0_mustBeSpared_30 (q_r.mono rl_0 (by decide)) ⟨rfl, (q_r.mono rl_0 (by decide)), (by rw [tl_0]; exact fx_end hF hF0)⟩
  intro c22
  replace hF := fx_lt1 hF rfl rfl c22
  refine q_iconst (pc := 25) hG dX0_mustBeSpared_25 ki_1 ?_
  refine q_goto (pc := 26) 30 hG dX0_mustBeSpared_26 rfl ?_
  exact q_zrt hG hE dX0_mustBeSpared_30 (q_r.mono rl_1 (by decide)) ⟨rfl, (q_r.mono rl_1 (by decide)), (by rw [tl_1]; exact fx_end hF hF0)⟩
theorem dX0_hitsFrom_0 : decode cX0_hitsFrom 0 = .ok (.aload_n 0, 1) := by decide +kernel
theorem dX0_hitsFrom_1 : decode cX0_hitsFrom 1 = .ok (.getfield 106, 3) := by decide +kernel
theorem dX0_hitsFrom_4 : decode cX0_hitsFrom 4 = .ok (.iload_n 1, 1) := by decide +kernel
theorem dX0_hitsFrom_5 : decode cX0_hitsFrom 5 = .ok (.iaload, 1) := by decide +kernel
theorem dX0_hitsFrom_6 : decode cX0_hitsFrom 6 = .ok (.iload_n 2, 1) := by decide +kernel
theorem dX0_hitsFrom_7 : decode cX0_hitsFrom 7 = .ok (.ifCond .ne 7, 3) := by decide +kernel
theorem dX0_hitsFrom_10 : decode cX0_hitsFrom 10 = .ok (.iload_n 1, 1) := by decide +kernel
theorem dX0_hitsFrom_11 : decode cX0_hitsFrom 11 = .ok (.goto 11, 3) := by decide +kernel
theorem dX0_hitsFrom_14 : decode cX0_hitsFrom 14 = .ok (.aload_n 0, 1) := by decide +kernel
theorem dX0_hitsFrom_15 : decode cX0_hitsFrom 15 = .ok (.getfield 47, 3) := by decide +kernel
theorem dX0_hitsFrom_18 : decode cX0_hitsFrom 18 = .ok (.iconst 1, 1) := by decide +kernel
theorem dX0_hitsFrom_19 : decode cX0_hitsFrom 19 = .ok (.isub, 1) := by decide +kernel
theorem dX0_hitsFrom_20 : decode cX0_hitsFrom 20 = .ok (.iload_n 1, 1) := by decide +kernel
theorem dX0_hitsFrom_21 : decode cX0_hitsFrom 21 = .ok (.isub, 1) := by decide +kernel
theorem dX0_hitsFrom_22 : decode cX0_hitsFrom 22 = .ok (.isub, 1) := by decide +kernel
theorem dX0_hitsFrom_23 : decode cX0_hitsFrom 23 = .ok (.ireturn, 1) := by decide +kernel
set_option maxRecDepth 100000 in
set_option maxHeartbeats 4000000 in
theorem c_X0_hitsFrom {l : Launch} {D : q_D} (τ : q_T) (σ : q_V) (a0 : Nat) (x1 : Int32) (x2 : Int32) (hI : q_I τ σ) (tA0 : τ a0 = some (6, 1)) (rA1 : q_r x1 0 63) : q_Cp l D yX0_hitsFrom cX0_hitsFrom 3 (some .int) 0 0 τ σ [.ref a0, .int x1, .int x2] (fun r => (q_r r (-2147483648) 2147483647) ∧ (r.toInt = f_X0_hitsFrom (fx_N σ) a0 x1.toInt x2.toInt)) := by
  refine q_meti rfl (Nat.le_of_ble_eq_true rfl) (fun X hG hE => ?_)
  show q_O X 0 0 τ σ 0 [(0, .ref a0), (1, .int x1), (2, .int x2)] []
  obtain ⟨Fv, hF⟩ : ∃ z, fx_eq z (f_X0_hitsFrom (fx_N σ) a0 x1.toInt x2.toInt) := ⟨_, fx_rf⟩
  have hF0 := hF
  unfold f_X0_hitsFrom at hF
  refine q_aload_n (pc := 0) hG dX0_hitsFrom_0 0 rfl ?_
  refine q_getR (pc := 1) (k2 := 121) (n2 := 64) hG fl_X0_106 dX0_hitsFrom_1 hI tA0 ff_6_6 (fun b1 f1 T1 => ?_)
  replace hF := fx_R hF f1 rfl
  refine q_iload_n (pc := 4) hG dX0_hitsFrom_4 1 rfl ?_
  refine q_iald (pc := 5) hG dX0_hitsFrom_5 hI ai_121 T1 (q_ix rA1 (by decide)) (fun v5 f5 g5 => ?_)
  replace hF := fx_I hF f5 rfl
  refine q_iload_n (pc := 6) hG dX0_hitsFrom_6 2 rfl ?_
  refine q_if_ne (pc := 7) hG 14 dX0_hitsFrom_7 rfl ?_ ?_
  · intro c7
    replace hF := fx_eq2 hF rfl rfl c7
    refine q_aload_n (pc := 14) hG dX0_hitsFrom_14 0 rfl ?_
    refine q_getI (pc := 15) hG fl_X0_47 dX0_hitsFrom_15 hI tA0 ff_6_0 (fun v15 f15 g15 => ?_)
    replace hF := fx_I hF f15 rfl
    refine q_iconst (pc := 18) hG dX0_hitsFrom_18 ki_1 ?_
    refine q_isub (pc := 19) hG dX0_hitsFrom_19 (fun v19 e19 => ?_)
    replace hF := fx_sub hF rfl tl_1 (q_subN (lo := 7) (hi := 63) e19 g15 rl_1 (by decide)).1
    refine q_iload_n (pc := 20) hG dX0_hitsFrom_20 1 rfl ?_
    refine q_isub (pc := 21) hG dX0_hitsFrom_21 (fun v21 e21 => ?_)
    have r_1 := (q_subN (lo := 7) (hi := 63) e19 g15 rl_1 (by decide)).2
    replace hF := fx_sub hF rfl rfl (q_subN (lo := (-56)) (hi := 63) e21 r_1 rA1 (by decide)).1
    refine q_isub (pc := 22) hG dX0_hitsFrom_22 (fun v22 e22 => ?_)
    replace hF := fx_B_sub hF rfl rfl e22
    exact q_irt hG hE dX0_hitsFrom_23 ⟨rfl, (q_r_any v22), (fx_end hF hF0)⟩
  intro c7
  replace hF := fx_eq1 hF rfl rfl c7
  refine q_iload_n (pc := 10) hG dX0_hitsFrom_10 1 rfl ?_
  refine q_goto (pc := 11) 22 hG dX0_hitsFrom_11 rfl ?_
  refine q_isub (pc := 22) hG dX0_hitsFrom_22 (fun v22 e22 => ?_)
  replace hF := fx_B_sub hF rfl rfl e22
  exact q_irt hG hE dX0_hitsFrom_23 ⟨rfl, (q_r_any v22), (fx_end hF hF0)⟩
theorem dX0_freeFrom_0 : decode cX0_freeFrom 0 = .ok (.iload_n 2, 1) := by decide +kernel
theorem dX0_freeFrom_1 : decode cX0_freeFrom 1 = .ok (.istore_n 3, 1) := by decide +kernel
theorem dX0_freeFrom_2 : decode cX0_freeFrom 2 = .ok (.iconst 0, 1) := by decide +kernel
theorem dX0_freeFrom_3 : decode cX0_freeFrom 3 = .ok (.istore 4, 2) := by decide +kernel
theorem dX0_freeFrom_5 : decode cX0_freeFrom 5 = .ok (.iload 4, 2) := by decide +kernel
theorem dX0_freeFrom_7 : decode cX0_freeFrom 7 = .ok (.aload_n 0, 1) := by decide +kernel
theorem dX0_freeFrom_8 : decode cX0_freeFrom 8 = .ok (.getfield 47, 3) := by decide +kernel
theorem dX0_freeFrom_11 : decode cX0_freeFrom 11 = .ok (.if_icmp .ge 63, 3) := by decide +kernel
theorem dX0_freeFrom_14 : decode cX0_freeFrom 14 = .ok (.aload_n 0, 1) := by decide +kernel
theorem dX0_freeFrom_15 : decode cX0_freeFrom 15 = .ok (.iload 4, 2) := by decide +kernel
theorem dX0_freeFrom_17 : decode cX0_freeFrom 17 = .ok (.iload_n 1, 1) := by decide +kernel
theorem dX0_freeFrom_18 : decode cX0_freeFrom 18 = .ok (.invokestatic 74, 3) := by decide +kernel
theorem dX0_freeFrom_21 : decode cX0_freeFrom 21 = .ok (.istore 5, 2) := by decide +kernel
theorem dX0_freeFrom_23 : decode cX0_freeFrom 23 = .ok (.aload_n 0, 1) := by decide +kernel
theorem dX0_freeFrom_24 : decode cX0_freeFrom 24 = .ok (.iload 4, 2) := by decide +kernel
theorem dX0_freeFrom_26 : decode cX0_freeFrom 26 = .ok (.invokestatic 109, 3) := by decide +kernel
theorem dX0_freeFrom_29 : decode cX0_freeFrom 29 = .ok (.ifCond .eq 39, 3) := by decide +kernel
theorem dX0_freeFrom_32 : decode cX0_freeFrom 32 = .ok (.iload_n 2, 1) := by decide +kernel
theorem dX0_freeFrom_33 : decode cX0_freeFrom 33 = .ok (.iload 5, 2) := by decide +kernel
theorem dX0_freeFrom_35 : decode cX0_freeFrom 35 = .ok (.iload 5, 2) := by decide +kernel
theorem dX0_freeFrom_37 : decode cX0_freeFrom 37 = .ok (.aload_n 0, 1) := by decide +kernel
theorem dX0_freeFrom_38 : decode cX0_freeFrom 38 = .ok (.getfield 82, 3) := by decide +kernel
theorem dX0_freeFrom_41 : decode cX0_freeFrom 41 = .ok (.iload 4, 2) := by decide +kernel
theorem dX0_freeFrom_43 : decode cX0_freeFrom 43 = .ok (.iaload, 1) := by decide +kernel
theorem dX0_freeFrom_44 : decode cX0_freeFrom 44 = .ok (.iadd, 1) := by decide +kernel
theorem dX0_freeFrom_45 : decode cX0_freeFrom 45 = .ok (.iconst 1, 1) := by decide +kernel
theorem dX0_freeFrom_46 : decode cX0_freeFrom 46 = .ok (.isub, 1) := by decide +kernel
theorem dX0_freeFrom_47 : decode cX0_freeFrom 47 = .ok (.invokestatic 102, 3) := by decide +kernel
theorem dX0_freeFrom_50 : decode cX0_freeFrom 50 = .ok (.ifCond .eq 18, 3) := by decide +kernel
theorem dX0_freeFrom_53 : decode cX0_freeFrom 53 = .ok (.iload_n 3, 1) := by decide +kernel
theorem dX0_freeFrom_54 : decode cX0_freeFrom 54 = .ok (.iload 5, 2) := by decide +kernel
theorem dX0_freeFrom_56 : decode cX0_freeFrom 56 = .ok (.aload_n 0, 1) := by decide +kernel
theorem dX0_freeFrom_57 : decode cX0_freeFrom 57 = .ok (.getfield 82, 3) := by decide +kernel
theorem dX0_freeFrom_60 : decode cX0_freeFrom 60 = .ok (.iload 4, 2) := by decide +kernel
theorem dX0_freeFrom_62 : decode cX0_freeFrom 62 = .ok (.iaload, 1) := by decide +kernel
theorem dX0_freeFrom_63 : decode cX0_freeFrom 63 = .ok (.iadd, 1) := by decide +kernel
theorem dX0_freeFrom_64 : decode cX0_freeFrom 64 = .ok (.invokestatic 78, 3) := by decide +kernel
theorem dX0_freeFrom_67 : decode cX0_freeFrom 67 = .ok (.istore_n 3, 1) := by decide +kernel
theorem dX0_freeFrom_68 : decode cX0_freeFrom 68 = .ok (.iinc 4 1, 3) := by decide +kernel
theorem dX0_freeFrom_71 : decode cX0_freeFrom 71 = .ok (.goto (-66), 3) := by decide +kernel
theorem dX0_freeFrom_74 : decode cX0_freeFrom 74 = .ok (.iload_n 3, 1) := by decide +kernel
theorem dX0_freeFrom_75 : decode cX0_freeFrom 75 = .ok (.ireturn, 1) := by decide +kernel
set_option maxRecDepth 100000 in
set_option maxHeartbeats 4000000 in
theorem c_X0_freeFrom {l : Launch} {D : q_D} (τ : q_T) (σ : q_V) (a0 : Nat) (x1 : Int32) (x2 : Int32) (hI : q_I τ σ) (tA0 : τ a0 = some (6, 1)) : q_Cp l D yX0_freeFrom cX0_freeFrom 6 (some .int) 3 64 τ σ [.ref a0, .int x1, .int x2] (fun r => (q_r r (-2147483648) 2147483647) ∧ (r.toInt = f_X0_freeFrom (fx_N σ) a0 x1.toInt x2.toInt)) := by
  refine q_meti rfl (Nat.le_of_ble_eq_true rfl) (fun X hG hE => ?_)
  show q_O X 0 0 τ σ 0 [(0, .ref a0), (1, .int x1), (2, .int x2)] []
  obtain ⟨Fv, hF⟩ : ∃ z, fx_eq z (f_X0_freeFrom (fx_N σ) a0 x1.toInt x2.toInt) := ⟨_, fx_rf⟩
  have hF0 := hF
  unfold f_X0_freeFrom at hF
  refine q_iload_n (pc := 0) hG dX0_freeFrom_0 2 rfl ?_
  refine q_istore_n (pc := 1) [(3, .int x2), (0, .ref a0), (1, .int x1), (2, .int x2)] hG dX0_freeFrom_1 (by decide) rfl ?_
  refine q_iconst (pc := 2) hG dX0_freeFrom_2 ki_0 ?_
  refine q_istore (pc := 3) [(4, .int 0), (3, .int x2), (0, .ref a0), (1, .int x1), (2, .int x2)] hG dX0_freeFrom_3 (by decide) rfl ?_
  have J5 : ∀ (n5 : Nat) (p5_3 : Int32) (p5_4 : Int32), (q_r p5_4 0 64) → (fx_eq Fv (kL_X0_freeFrom_5 (fx_N σ) a0 x1.toInt x2.toInt n5 p5_3.toInt p5_4.toInt)) → ((64 - p5_4.toInt).toNat < n5) → q_O X 0 0 τ σ 5 [(0, .ref a0), (1, .int x1), (2, .int x2), (3, .int p5_3), (4, .int p5_4)] [] := by
    intro n5
    induction n5 with
    | zero => intro p5_3 p5_4 r5_4 hF hm5; exact absurd hm5 (Nat.not_lt_zero _)
    | succ n5 ih5 =>
      intro p5_3 p5_4 r5_4 hF hm5
      replace hF := (show fx_eq Fv (kB_X0_freeFrom_5 (kL_X0_freeFrom_5 (fx_N σ) a0 x1.toInt x2.toInt n5) (fx_N σ) a0 x1.toInt x2.toInt p5_3.toInt p5_4.toInt) from hF)
      unfold kB_X0_freeFrom_5 at hF
      refine q_iload (pc := 5) hG dX0_freeFrom_5 4 rfl ?_
      refine q_aload_n (pc := 7) hG dX0_freeFrom_7 0 rfl ?_
      refine q_getI (pc := 8) hG fl_X0_47 dX0_freeFrom_8 hI tA0 ff_6_0 (fun v8 f8 g8 => ?_)
      replace hF := fx_I hF f8 rfl
      refine q_icmp_ge (pc := 11) hG 74 dX0_freeFrom_11 rfl ?_ ?_
      · intro c11
        replace hF := fx_lt2 hF rfl rfl c11
        refine q_iload_n (pc := 74) hG dX0_freeFrom_74 3 rfl ?_
        exact q_irt hG hE dX0_freeFrom_75 ⟨rfl, (q_r_any p5_3), (fx_end hF hF0)⟩
      intro c11
      replace hF := fx_lt1 hF rfl rfl c11
      refine q_aload_n (pc := 14) hG dX0_freeFrom_14 0 rfl ?_
      refine q_iload (pc := 15) hG dX0_freeFrom_15 4 rfl ?_
      refine q_iload_n (pc := 17) hG dX0_freeFrom_17 1 rfl ?_
      have r_1 := q_rlt r5_4 g8 c11 63 (by decide)
      refine q_pS (pc := 18) [.ref a0, .int p5_4, .int x1] [] hG (c_X0_hitsFrom τ σ a0 p5_4 x1 hI tA0 r_1) my_X0_hitsFrom w735 w734 dX0_freeFrom_18 rfl rfl (Nat.le_of_ble_eq_true rfl) (by decide) (fun v18 p18 => ?_)
      replace hF := fx_E hF p18.2
      refine q_istore (pc := 21) [(5, .int v18), (0, .ref a0), (1, .int x1), (2, .int x2), (3, .int p5_3), (4, .int p5_4)] hG dX0_freeFrom_21 (by decide) rfl ?_
      refine q_aload_n (pc := 23) hG dX0_freeFrom_23 1 rfl ?_
      refine q_iload (pc := 24) hG dX0_freeFrom_24 5 rfl ?_
      refine q_pS (pc := 26) [.ref a0, .int p5_4] [] hG (c_X0_mustBeSpared τ σ a0 p5_4 hI tA0 r_1) my_X0_mustBeSpared w743 w742 dX0_freeFrom_26 rfl rfl (Nat.le_of_ble_eq_true rfl) (by decide) (fun v26 p26 => ?_)
      replace hF := fx_E hF p26.2
      have J68 : ∀ (p68_3 : Int32), (fx_eq Fv (kJ_X0_freeFrom_68 p5_4.toInt (kL_X0_freeFrom_5 (fx_N σ) a0 x1.toInt x2.toInt n5) p68_3.toInt)) → q_O X 0 0 τ σ 68 [(0, .ref a0), (1, .int x1), (2, .int x2), (3, .int p68_3), (4, .int p5_4)] [] := by
        intro p68_3 hF
        unfold kJ_X0_freeFrom_68 at hF
        obtain ⟨v68, e68⟩ : ∃ z : Int32, z = p5_4 + Int32.ofInt 1 := ⟨_, rfl⟩
        have h68 := q_incN (lo := 1) (hi := 64) r_1 (by decide) (by decide) e68
        replace hF := fx_add hF rfl rfl h68.1
        refine q_iinc (pc := 68) [(4, .int v68), (0, .ref a0), (1, .int x1), (2, .int x2), (3, .int p68_3)] hG dX0_freeFrom_68 4 rfl e68 (by decide) rfl ?_
        refine q_goto (pc := 71) 5 hG dX0_freeFrom_71 rfl ?_
        refine q_lv [1, 2, 3, 4, 0] rfl ?_
        exact ih5 p68_3 v68 (q_r.mono h68.2 (by decide)) hF (q_measU hm5 (by have o0 := c11; have o1 := h68.1; have o2 := r_1; have o3 := h68.2; have o4 := g8; unfold q_r at o2 o3 o4; omega) (h68.2).2)
      refine q_if_eq (pc := 29) hG 68 dX0_freeFrom_29 rfl ?_ ?_
      · intro c29
        replace hF := fx_eq1 hF rfl rfl c29
        refine q_lv [1, 2, 3, 4, 5] rfl ?_
        exact J68 p5_3 hF
      intro c29
      replace hF := fx_eq2 hF rfl rfl c29
      refine q_iload_n (pc := 32) hG dX0_freeFrom_32 3 rfl ?_
      refine q_iload (pc := 33) hG dX0_freeFrom_33 0 rfl ?_
      refine q_iload (pc := 35) hG dX0_freeFrom_35 0 rfl ?_
      refine q_aload_n (pc := 37) hG dX0_freeFrom_37 1 rfl ?_
      refine q_getR (pc := 38) (k2 := 122) (n2 := 64) hG fl_X0_82 dX0_freeFrom_38 hI tA0 ff_6_7 (fun b38 f38 T38 => ?_)
      replace hF := fx_R hF f38 rfl
      refine q_iload (pc := 41) hG dX0_freeFrom_41 5 rfl ?_
      refine q_iald (pc := 43) hG dX0_freeFrom_43 hI ai_122 T38 (q_ix r_1 (by decide)) (fun v43 f43 g43 => ?_)
      replace hF := fx_I hF f43 rfl
      refine q_iadd (pc := 44) hG dX0_freeFrom_44 (fun v44 e44 => ?_)
      replace hF := fx_B_add hF rfl rfl e44
      refine q_iconst (pc := 45) hG dX0_freeFrom_45 ki_1 ?_
      refine q_isub (pc := 46) hG dX0_freeFrom_46 (fun v46 e46 => ?_)
      replace hF := fx_B_sub hF rfl tl_1 e46
      refine q_pN (pc := 47) [.int x2, .int v18, .int v46] [] hG (c_X11_isIn τ σ x2 v18 v46 hI) my_X11_isIn w238 nw_17 dX0_freeFrom_47 rfl rfl (Nat.le_of_ble_eq_true rfl) (by decide) (fun v47 p47 => ?_)
      replace hF := fx_E hF p47.2.1
      refine q_if_eq (pc := 50) hG 68 dX0_freeFrom_50 rfl ?_ ?_
      · intro c50
        replace hF := fx_eq1 hF rfl rfl c50
        refine q_lv [1, 2, 3, 4, 5] rfl ?_
        exact J68 p5_3 hF
      intro c50
      have g_2 := p47.2.2.mp (q_one p47.1 c50)
      replace hF := fx_eq2 hF rfl rfl c50
      refine q_iload_n (pc := 53) hG dX0_freeFrom_53 4 rfl ?_
      refine q_iload (pc := 54) hG dX0_freeFrom_54 0 rfl ?_
      refine q_aload_n (pc := 56) hG dX0_freeFrom_56 1 rfl ?_
      refine q_getV (pc := 57) (v := .ref b38) hG fl_X0_82 dX0_freeFrom_57 tA0 f38 ?_
      refine q_iload (pc := 60) hG dX0_freeFrom_60 5 rfl ?_
      refine q_ialdV (pc := 62) (v := .int v43) hG dX0_freeFrom_62 T38 (by decide) (by decide) (q_ix r_1 (by decide)) f43 ?_
      refine q_iadd (pc := 63) hG dX0_freeFrom_63 (fun v63 e63 => ?_)
      rw [e63.trans e44.symm]
      refine q_pS (pc := 64) [.int p5_3, .int v44] [] hG (c_J9_max_7cf53 τ σ p5_3 v44 hI) my_J9_max_7cf53 w262 w737 dX0_freeFrom_64 rfl rfl (Nat.le_of_ble_eq_true rfl) (by decide) (fun v64 p64 => ?_)
      replace hF := fx_E hF p64.2.1
      refine q_istore_n (pc := 67) [(3, .int v64), (5, .int v18), (0, .ref a0), (1, .int x1), (2, .int x2), (4, .int p5_4)] hG dX0_freeFrom_67 (by decide) rfl ?_
      refine q_lv [2, 3, 4, 0, 5] rfl ?_
      exact J68 v64 hF
  refine q_lv [2, 3, 4, 1, 0] rfl ?_
  exact J5 ((64 - (0 : Int32).toInt).toNat + 1) x2 0 (q_r.mono rl_0 (by decide)) (by rw [tl_0]; exact hF) (Nat.lt_succ_self _)
theorem dX0_nextHit_0 : decode cX0_nextHit 0 = .ok (.iload_n 3, 1) := by decide +kernel
theorem dX0_nextHit_1 : decode cX0_nextHit 1 = .ok (.iconst 1, 1) := by decide +kernel
theorem dX0_nextHit_2 : decode cX0_nextHit 2 = .ok (.iadd, 1) := by decide +kernel
theorem dX0_nextHit_3 : decode cX0_nextHit 3 = .ok (.istore 4, 2) := by decide +kernel
theorem dX0_nextHit_5 : decode cX0_nextHit 5 = .ok (.iconst 0, 1) := by decide +kernel
theorem dX0_nextHit_6 : decode cX0_nextHit 6 = .ok (.istore 5, 2) := by decide +kernel
theorem dX0_nextHit_8 : decode cX0_nextHit 8 = .ok (.iload 5, 2) := by decide +kernel
theorem dX0_nextHit_10 : decode cX0_nextHit 10 = .ok (.aload_n 0, 1) := by decide +kernel
theorem dX0_nextHit_11 : decode cX0_nextHit 11 = .ok (.getfield 47, 3) := by decide +kernel
theorem dX0_nextHit_14 : decode cX0_nextHit 14 = .ok (.if_icmp .ge 54, 3) := by decide +kernel
theorem dX0_nextHit_17 : decode cX0_nextHit 17 = .ok (.aload_n 0, 1) := by decide +kernel
theorem dX0_nextHit_18 : decode cX0_nextHit 18 = .ok (.iload 5, 2) := by decide +kernel
theorem dX0_nextHit_20 : decode cX0_nextHit 20 = .ok (.iload_n 1, 1) := by decide +kernel
theorem dX0_nextHit_21 : decode cX0_nextHit 21 = .ok (.invokestatic 74, 3) := by decide +kernel
theorem dX0_nextHit_24 : decode cX0_nextHit 24 = .ok (.istore 6, 2) := by decide +kernel
theorem dX0_nextHit_26 : decode cX0_nextHit 26 = .ok (.aload_n 0, 1) := by decide +kernel
theorem dX0_nextHit_27 : decode cX0_nextHit 27 = .ok (.iload 5, 2) := by decide +kernel
theorem dX0_nextHit_29 : decode cX0_nextHit 29 = .ok (.invokestatic 109, 3) := by decide +kernel
theorem dX0_nextHit_32 : decode cX0_nextHit 32 = .ok (.ifCond .eq 30, 3) := by decide +kernel
theorem dX0_nextHit_35 : decode cX0_nextHit 35 = .ok (.iload_n 2, 1) := by decide +kernel
theorem dX0_nextHit_36 : decode cX0_nextHit 36 = .ok (.iload 6, 2) := by decide +kernel
theorem dX0_nextHit_38 : decode cX0_nextHit 38 = .ok (.aload_n 0, 1) := by decide +kernel
theorem dX0_nextHit_39 : decode cX0_nextHit 39 = .ok (.getfield 82, 3) := by decide +kernel
theorem dX0_nextHit_42 : decode cX0_nextHit 42 = .ok (.iload 5, 2) := by decide +kernel
theorem dX0_nextHit_44 : decode cX0_nextHit 44 = .ok (.iaload, 1) := by decide +kernel
theorem dX0_nextHit_45 : decode cX0_nextHit 45 = .ok (.iadd, 1) := by decide +kernel
theorem dX0_nextHit_46 : decode cX0_nextHit 46 = .ok (.if_icmp .ge 16, 3) := by decide +kernel
theorem dX0_nextHit_49 : decode cX0_nextHit 49 = .ok (.iload 4, 2) := by decide +kernel
theorem dX0_nextHit_51 : decode cX0_nextHit 51 = .ok (.iload_n 2, 1) := by decide +kernel
theorem dX0_nextHit_52 : decode cX0_nextHit 52 = .ok (.iload 6, 2) := by decide +kernel
theorem dX0_nextHit_54 : decode cX0_nextHit 54 = .ok (.invokestatic 78, 3) := by decide +kernel
theorem dX0_nextHit_57 : decode cX0_nextHit 57 = .ok (.invokestatic 85, 3) := by decide +kernel
theorem dX0_nextHit_60 : decode cX0_nextHit 60 = .ok (.istore 4, 2) := by decide +kernel
theorem dX0_nextHit_62 : decode cX0_nextHit 62 = .ok (.iinc 5 1, 3) := by decide +kernel
theorem dX0_nextHit_65 : decode cX0_nextHit 65 = .ok (.goto (-57), 3) := by decide +kernel
theorem dX0_nextHit_68 : decode cX0_nextHit 68 = .ok (.iload 4, 2) := by decide +kernel
theorem dX0_nextHit_70 : decode cX0_nextHit 70 = .ok (.ireturn, 1) := by decide +kernel
set_option maxRecDepth 100000 in
set_option maxHeartbeats 4000000 in
theorem c_X0_nextHit {l : Launch} {D : q_D} (τ : q_T) (σ : q_V) (a0 : Nat) (x1 : Int32) (x2 : Int32) (x3 : Int32) (hI : q_I τ σ) (tA0 : τ a0 = some (6, 1)) : q_Cp l D yX0_nextHit cX0_nextHit 7 (some .int) 3 64 τ σ [.ref a0, .int x1, .int x2, .int x3] (fun r => (q_r r (-2147483648) 2147483647) ∧ (r.toInt = f_X0_nextHit (fx_N σ) a0 x1.toInt x2.toInt x3.toInt)) := by
  refine q_meti rfl (Nat.le_of_ble_eq_true rfl) (fun X hG hE => ?_)
  show q_O X 0 0 τ σ 0 [(0, .ref a0), (1, .int x1), (2, .int x2), (3, .int x3)] []
  obtain ⟨Fv, hF⟩ : ∃ z, fx_eq z (f_X0_nextHit (fx_N σ) a0 x1.toInt x2.toInt x3.toInt) := ⟨_, fx_rf⟩
  have hF0 := hF
  unfold f_X0_nextHit at hF
  refine q_iload_n (pc := 0) hG dX0_nextHit_0 3 rfl ?_
  refine q_iconst (pc := 1) hG dX0_nextHit_1 ki_1 ?_
  refine q_iadd (pc := 2) hG dX0_nextHit_2 (fun v2 e2 => ?_)
  replace hF := fx_B_add hF rfl tl_1 e2
  refine q_istore (pc := 3) [(4, .int v2), (0, .ref a0), (1, .int x1), (2, .int x2), (3, .int x3)] hG dX0_nextHit_3 (by decide) rfl ?_
  refine q_iconst (pc := 5) hG dX0_nextHit_5 ki_0 ?_
  refine q_istore (pc := 6) [(5, .int 0), (4, .int v2), (0, .ref a0), (1, .int x1), (2, .int x2), (3, .int x3)] hG dX0_nextHit_6 (by decide) rfl ?_
  have J8 : ∀ (n8 : Nat) (p8_4 : Int32) (p8_5 : Int32), (q_r p8_5 0 64) → (fx_eq Fv (kL_X0_nextHit_8 (fx_N σ) a0 x1.toInt x2.toInt n8 p8_4.toInt p8_5.toInt)) → ((64 - p8_5.toInt).toNat < n8) → q_O X 0 0 τ σ 8 [(0, .ref a0), (1, .int x1), (2, .int x2), (4, .int p8_4), (5, .int p8_5)] [] := by
    intro n8
    induction n8 with
    | zero => intro p8_4 p8_5 r8_5 hF hm8; exact absurd hm8 (Nat.not_lt_zero _)
    | succ n8 ih8 =>
      intro p8_4 p8_5 r8_5 hF hm8
      replace hF := (show fx_eq Fv (kB_X0_nextHit_8 (kL_X0_nextHit_8 (fx_N σ) a0 x1.toInt x2.toInt n8) (fx_N σ) a0 x1.toInt x2.toInt p8_4.toInt p8_5.toInt) from hF)
      unfold kB_X0_nextHit_8 at hF
      refine q_iload (pc := 8) hG dX0_nextHit_8 4 rfl ?_
      refine q_aload_n (pc := 10) hG dX0_nextHit_10 0 rfl ?_
      refine q_getI (pc := 11) hG fl_X0_47 dX0_nextHit_11 hI tA0 ff_6_0 (fun v11 f11 g11 => ?_)
      replace hF := fx_I hF f11 rfl
      refine q_icmp_ge (pc := 14) hG 68 dX0_nextHit_14 rfl ?_ ?_
      · intro c14
        replace hF := fx_lt2 hF rfl rfl c14
        refine q_iload (pc := 68) hG dX0_nextHit_68 3 rfl ?_
        exact q_irt hG hE dX0_nextHit_70 ⟨rfl, (q_r_any p8_4), (fx_end hF hF0)⟩
      intro c14
      replace hF := fx_lt1 hF rfl rfl c14
      refine q_aload_n (pc := 17) hG dX0_nextHit_17 0 rfl ?_
      refine q_iload (pc := 18) hG dX0_nextHit_18 4 rfl ?_
      refine q_iload_n (pc := 20) hG dX0_nextHit_20 1 rfl ?_
      have r_1 := q_rlt r8_5 g11 c14 63 (by decide)
      refine q_pS (pc := 21) [.ref a0, .int p8_5, .int x1] [] hG (c_X0_hitsFrom τ σ a0 p8_5 x1 hI tA0 r_1) my_X0_hitsFrom w735 w734 dX0_nextHit_21 rfl rfl (Nat.le_of_ble_eq_true rfl) (by decide) (fun v21 p21 => ?_)
      replace hF := fx_E hF p21.2
      refine q_istore (pc := 24) [(6, .int v21), (0, .ref a0), (1, .int x1), (2, .int x2), (4, .int p8_4), (5, .int p8_5)] hG dX0_nextHit_24 (by decide) rfl ?_
      refine q_aload_n (pc := 26) hG dX0_nextHit_26 1 rfl ?_
      refine q_iload (pc := 27) hG dX0_nextHit_27 5 rfl ?_
      refine q_pS (pc := 29) [.ref a0, .int p8_5] [] hG (c_X0_mustBeSpared τ σ a0 p8_5 hI tA0 r_1) my_X0_mustBeSpared w743 w742 dX0_nextHit_29 rfl rfl (Nat.le_of_ble_eq_true rfl) (by decide) (fun v29 p29 => ?_)
      replace hF := fx_E hF p29.2
      have J62 : ∀ (p62_4 : Int32), (fx_eq Fv (kJ_X0_nextHit_62 p8_5.toInt (kL_X0_nextHit_8 (fx_N σ) a0 x1.toInt x2.toInt n8) p62_4.toInt)) → q_O X 0 0 τ σ 62 [(0, .ref a0), (1, .int x1), (2, .int x2), (4, .int p62_4), (5, .int p8_5)] [] := by
        intro p62_4 hF
        unfold kJ_X0_nextHit_62 at hF
        obtain ⟨v62, e62⟩ : ∃ z : Int32, z = p8_5 + Int32.ofInt 1 := ⟨_, rfl⟩
        have h62 := q_incN (lo := 1) (hi := 64) r_1 (by decide) (by decide) e62
        replace hF := fx_add hF rfl rfl h62.1
        refine q_iinc (pc := 62) [(5, .int v62), (0, .ref a0), (1, .int x1), (2, .int x2), (4, .int p62_4)] hG dX0_nextHit_62 4 rfl e62 (by decide) rfl ?_
        refine q_goto (pc := 65) 8 hG dX0_nextHit_65 rfl ?_
        refine q_lv [1, 2, 3, 4, 0] rfl ?_
        exact ih8 p62_4 v62 (q_r.mono h62.2 (by decide)) hF (q_measU hm8 (by have o0 := c14; have o1 := h62.1; have o2 := r_1; have o3 := g11; have o4 := h62.2; unfold q_r at o2 o3 o4; omega) (h62.2).2)
      refine q_if_eq (pc := 32) hG 62 dX0_nextHit_32 rfl ?_ ?_
      · intro c32
        replace hF := fx_eq1 hF rfl rfl c32
        refine q_lv [1, 2, 3, 4, 5] rfl ?_
        exact J62 p8_4 hF
      intro c32
      replace hF := fx_eq2 hF rfl rfl c32
      refine q_iload_n (pc := 35) hG dX0_nextHit_35 3 rfl ?_
      refine q_iload (pc := 36) hG dX0_nextHit_36 0 rfl ?_
      refine q_aload_n (pc := 38) hG dX0_nextHit_38 1 rfl ?_
      refine q_getR (pc := 39) (k2 := 122) (n2 := 64) hG fl_X0_82 dX0_nextHit_39 hI tA0 ff_6_7 (fun b39 f39 T39 => ?_)
      replace hF := fx_R hF f39 rfl
      refine q_iload (pc := 42) hG dX0_nextHit_42 5 rfl ?_
      refine q_iald (pc := 44) hG dX0_nextHit_44 hI ai_122 T39 (q_ix r_1 (by decide)) (fun v44 f44 g44 => ?_)
      replace hF := fx_I hF f44 rfl
      refine q_iadd (pc := 45) hG dX0_nextHit_45 (fun v45 e45 => ?_)
      replace hF := fx_B_add hF rfl rfl e45
      refine q_icmp_ge (pc := 46) hG 62 dX0_nextHit_46 rfl ?_ ?_
      · intro c46
        replace hF := fx_lt2 hF rfl rfl c46
        refine q_lv [1, 2, 3, 4, 5] rfl ?_
        exact J62 p8_4 hF
      intro c46
      replace hF := fx_lt1 hF rfl rfl c46
      refine q_iload (pc := 49) hG dX0_nextHit_49 4 rfl ?_
      refine q_iload_n (pc := 51) hG dX0_nextHit_51 3 rfl ?_
      refine q_iload (pc := 52) hG dX0_nextHit_52 0 rfl ?_
      refine q_pS (pc := 54) [.int x2, .int v21] [.int p8_4] hG (c_J9_max_7cf53 τ σ x2 v21 hI) my_J9_max_7cf53 w262 w737 dX0_nextHit_54 rfl rfl (Nat.le_of_ble_eq_true rfl) (by decide) (fun v54 p54 => ?_)
      replace hF := fx_E hF p54.2.1
      have r_2 := q_rlt (q_r_any x2) (q_r_any v45) c46 2147483646 (by decide)
      refine q_pS (pc := 57) [.int p8_4, .int v54] [] hG (c_J9_min_7cf53 τ σ p8_4 v54 hI) my_J9_min_7cf53 w250 w738 dX0_nextHit_57 rfl rfl (Nat.le_of_ble_eq_true rfl) (by decide) (fun v57 p57 => ?_)
      replace hF := fx_E hF p57.2.1
      have r_3 := q_maxN (lo := (-2147483648)) (hi := 2147483647) p54.2.2 r_2 p21.1 (by decide)
      refine q_istore (pc := 60) [(4, .int v57), (6, .int v21), (0, .ref a0), (1, .int x1), (2, .int x2), (5, .int p8_5)] hG dX0_nextHit_60 (by decide) rfl ?_
      refine q_lv [2, 3, 4, 0, 5] rfl ?_
      exact J62 v57 hF
  refine q_lv [2, 3, 4, 1, 0] rfl ?_
  exact J8 ((64 - (0 : Int32).toInt).toNat + 1) v2 0 (q_r.mono rl_0 (by decide)) (by rw [tl_0]; exact hF) (Nat.lt_succ_self _)
theorem dX0_suspectOneWay_0 : decode cX0_suspectOneWay 0 = .ok (.iconst 0, 1) := by decide +kernel
theorem dX0_suspectOneWay_1 : decode cX0_suspectOneWay 1 = .ok (.istore_n 3, 1) := by decide +kernel
theorem dX0_suspectOneWay_2 : decode cX0_suspectOneWay 2 = .ok (.aload_n 1, 1) := by decide +kernel
theorem dX0_suspectOneWay_3 : decode cX0_suspectOneWay 3 = .ok (.getfield 31, 3) := by decide +kernel
theorem dX0_suspectOneWay_6 : decode cX0_suspectOneWay 6 = .ok (.istore 4, 2) := by decide +kernel
theorem dX0_suspectOneWay_8 : decode cX0_suspectOneWay 8 = .ok (.iconst 0, 1) := by decide +kernel
theorem dX0_suspectOneWay_9 : decode cX0_suspectOneWay 9 = .ok (.istore 5, 2) := by decide +kernel
theorem dX0_suspectOneWay_11 : decode cX0_suspectOneWay 11 = .ok (.iload 5, 2) := by decide +kernel
theorem dX0_suspectOneWay_13 : decode cX0_suspectOneWay 13 = .ok (.aload_n 1, 1) := by decide +kernel
theorem dX0_suspectOneWay_14 : decode cX0_suspectOneWay 14 = .ok (.getfield 47, 3) := by decide +kernel
theorem dX0_suspectOneWay_17 : decode cX0_suspectOneWay 17 = .ok (.if_icmp .ge 53, 3) := by decide +kernel
theorem dX0_suspectOneWay_20 : decode cX0_suspectOneWay 20 = .ok (.aload_n 1, 1) := by decide +kernel
theorem dX0_suspectOneWay_21 : decode cX0_suspectOneWay 21 = .ok (.iload 5, 2) := by decide +kernel
theorem dX0_suspectOneWay_23 : decode cX0_suspectOneWay 23 = .ok (.invokestatic 70, 3) := by decide +kernel
theorem dX0_suspectOneWay_26 : decode cX0_suspectOneWay 26 = .ok (.ifCond .eq 38, 3) := by decide +kernel
theorem dX0_suspectOneWay_29 : decode cX0_suspectOneWay 29 = .ok (.aload_n 1, 1) := by decide +kernel
theorem dX0_suspectOneWay_30 : decode cX0_suspectOneWay 30 = .ok (.iload 5, 2) := by decide +kernel
theorem dX0_suspectOneWay_32 : decode cX0_suspectOneWay 32 = .ok (.iload_n 2, 1) := by decide +kernel
theorem dX0_suspectOneWay_33 : decode cX0_suspectOneWay 33 = .ok (.invokestatic 74, 3) := by decide +kernel
theorem dX0_suspectOneWay_36 : decode cX0_suspectOneWay 36 = .ok (.istore 6, 2) := by decide +kernel
theorem dX0_suspectOneWay_38 : decode cX0_suspectOneWay 38 = .ok (.iload_n 3, 1) := by decide +kernel
theorem dX0_suspectOneWay_39 : decode cX0_suspectOneWay 39 = .ok (.iload 6, 2) := by decide +kernel
theorem dX0_suspectOneWay_41 : decode cX0_suspectOneWay 41 = .ok (.invokestatic 78, 3) := by decide +kernel
theorem dX0_suspectOneWay_44 : decode cX0_suspectOneWay 44 = .ok (.istore_n 3, 1) := by decide +kernel
theorem dX0_suspectOneWay_45 : decode cX0_suspectOneWay 45 = .ok (.iload 4, 2) := by decide +kernel
theorem dX0_suspectOneWay_47 : decode cX0_suspectOneWay 47 = .ok (.iload 6, 2) := by decide +kernel
theorem dX0_suspectOneWay_49 : decode cX0_suspectOneWay 49 = .ok (.aload_n 1, 1) := by decide +kernel
theorem dX0_suspectOneWay_50 : decode cX0_suspectOneWay 50 = .ok (.getfield 82, 3) := by decide +kernel
theorem dX0_suspectOneWay_53 : decode cX0_suspectOneWay 53 = .ok (.iload 5, 2) := by decide +kernel
theorem dX0_suspectOneWay_55 : decode cX0_suspectOneWay 55 = .ok (.iaload, 1) := by decide +kernel
theorem dX0_suspectOneWay_56 : decode cX0_suspectOneWay 56 = .ok (.iadd, 1) := by decide +kernel
theorem dX0_suspectOneWay_57 : decode cX0_suspectOneWay 57 = .ok (.iconst 1, 1) := by decide +kernel
theorem dX0_suspectOneWay_58 : decode cX0_suspectOneWay 58 = .ok (.isub, 1) := by decide +kernel
theorem dX0_suspectOneWay_59 : decode cX0_suspectOneWay 59 = .ok (.invokestatic 85, 3) := by decide +kernel
theorem dX0_suspectOneWay_62 : decode cX0_suspectOneWay 62 = .ok (.istore 4, 2) := by decide +kernel
theorem dX0_suspectOneWay_64 : decode cX0_suspectOneWay 64 = .ok (.iinc 5 1, 3) := by decide +kernel
theorem dX0_suspectOneWay_67 : decode cX0_suspectOneWay 67 = .ok (.goto (-56), 3) := by decide +kernel
theorem dX0_suspectOneWay_70 : decode cX0_suspectOneWay 70 = .ok (.iconst 0, 1) := by decide +kernel
theorem dX0_suspectOneWay_71 : decode cX0_suspectOneWay 71 = .ok (.istore 5, 2) := by decide +kernel
theorem dX0_suspectOneWay_73 : decode cX0_suspectOneWay 73 = .ok (.iload 5, 2) := by decide +kernel
theorem dX0_suspectOneWay_75 : decode cX0_suspectOneWay 75 = .ok (.sipush 128, 3) := by decide +kernel
theorem dX0_suspectOneWay_78 : decode cX0_suspectOneWay 78 = .ok (.if_icmp .gt 61, 3) := by decide +kernel
theorem dX0_suspectOneWay_81 : decode cX0_suspectOneWay 81 = .ok (.iload_n 3, 1) := by decide +kernel
theorem dX0_suspectOneWay_82 : decode cX0_suspectOneWay 82 = .ok (.iload 4, 2) := by decide +kernel
theorem dX0_suspectOneWay_84 : decode cX0_suspectOneWay 84 = .ok (.if_icmp .gt 55, 3) := by decide +kernel
theorem dX0_suspectOneWay_87 : decode cX0_suspectOneWay 87 = .ok (.aload_n 1, 1) := by decide +kernel
theorem dX0_suspectOneWay_88 : decode cX0_suspectOneWay 88 = .ok (.iload_n 2, 1) := by decide +kernel
theorem dX0_suspectOneWay_89 : decode cX0_suspectOneWay 89 = .ok (.iload_n 3, 1) := by decide +kernel
theorem dX0_suspectOneWay_90 : decode cX0_suspectOneWay 90 = .ok (.invokestatic 88, 3) := by decide +kernel
theorem dX0_suspectOneWay_93 : decode cX0_suspectOneWay 93 = .ok (.istore 6, 2) := by decide +kernel
theorem dX0_suspectOneWay_95 : decode cX0_suspectOneWay 95 = .ok (.aload_n 1, 1) := by decide +kernel
theorem dX0_suspectOneWay_96 : decode cX0_suspectOneWay 96 = .ok (.iload_n 2, 1) := by decide +kernel
theorem dX0_suspectOneWay_97 : decode cX0_suspectOneWay 97 = .ok (.iload 6, 2) := by decide +kernel
theorem dX0_suspectOneWay_99 : decode cX0_suspectOneWay 99 = .ok (.iload 4, 2) := by decide +kernel
theorem dX0_suspectOneWay_101 : decode cX0_suspectOneWay 101 = .ok (.invokestatic 91, 3) := by decide +kernel
theorem dX0_suspectOneWay_104 : decode cX0_suspectOneWay 104 = .ok (.istore 7, 2) := by decide +kernel
theorem dX0_suspectOneWay_106 : decode cX0_suspectOneWay 106 = .ok (.iload 7, 2) := by decide +kernel
theorem dX0_suspectOneWay_108 : decode cX0_suspectOneWay 108 = .ok (.iload 6, 2) := by decide +kernel
theorem dX0_suspectOneWay_110 : decode cX0_suspectOneWay 110 = .ok (.if_icmp .le 15, 3) := by decide +kernel
theorem dX0_suspectOneWay_113 : decode cX0_suspectOneWay 113 = .ok (.aload_n 0, 1) := by decide +kernel
theorem dX0_suspectOneWay_114 : decode cX0_suspectOneWay 114 = .ok (.iload 6, 2) := by decide +kernel
theorem dX0_suspectOneWay_116 : decode cX0_suspectOneWay 116 = .ok (.iload_n 2, 1) := by decide +kernel
theorem dX0_suspectOneWay_117 : decode cX0_suspectOneWay 117 = .ok (.iload 7, 2) := by decide +kernel
theorem dX0_suspectOneWay_119 : decode cX0_suspectOneWay 119 = .ok (.iload 6, 2) := by decide +kernel
theorem dX0_suspectOneWay_121 : decode cX0_suspectOneWay 121 = .ok (.isub, 1) := by decide +kernel
theorem dX0_suspectOneWay_122 : decode cX0_suspectOneWay 122 = .ok (.invokevirtual 95, 3) := by decide +kernel
theorem dX0_suspectOneWay_125 : decode cX0_suspectOneWay 125 = .ok (.iload 6, 2) := by decide +kernel
theorem dX0_suspectOneWay_127 : decode cX0_suspectOneWay 127 = .ok (.iload 7, 2) := by decide +kernel
theorem dX0_suspectOneWay_129 : decode cX0_suspectOneWay 129 = .ok (.invokestatic 78, 3) := by decide +kernel
theorem dX0_suspectOneWay_132 : decode cX0_suspectOneWay 132 = .ok (.istore_n 3, 1) := by decide +kernel
theorem dX0_suspectOneWay_133 : decode cX0_suspectOneWay 133 = .ok (.iinc 5 1, 3) := by decide +kernel
theorem dX0_suspectOneWay_136 : decode cX0_suspectOneWay 136 = .ok (.goto (-63), 3) := by decide +kernel
theorem dX0_suspectOneWay_139 : decode cX0_suspectOneWay 139 = .ok (.return_, 1) := by decide +kernel
def md_X0_suspectOneWay : List (Nat × Nat) := [(0, 1), (0, 2), (0, 3)]
set_option maxRecDepth 100000 in
set_option maxHeartbeats 4000000 in
theorem c_X0_suspectOneWay {l : Launch} {D : q_D} (τ : q_T) (σ : q_V) (a0 : Nat) (a1 : Nat) (x2 : Int32) (hI : q_I τ σ) (tA0 : τ a0 = some (0, 1)) (tA1 : τ a1 = some (6, 1)) : q_Cv l D yX0_suspectOneWay cX0_suspectOneWay 8 none 4 90 τ σ [.ref a0, .ref a1, .int x2] (fun σ1 => q_S md_X0_suspectOneWay τ σ σ1 ∧ (fx_N σ1 = f_X0_suspectOneWay (fx_N σ) a0 a1 x2.toInt)) := by
  refine q_metv rfl (Nat.le_of_ble_eq_true rfl) (fun X hG hE => ?_)
  show q_O X 0 0 τ σ 0 [(0, .ref a0), (1, .ref a1), (2, .int x2)] []
  have hS0 : q_S md_X0_suspectOneWay τ σ σ := q_S.rf hI
  obtain ⟨Fv, hF⟩ : ∃ z, fx_eq z (f_X0_suspectOneWay (fx_N σ) a0 a1 x2.toInt) := ⟨_, fx_rf⟩
  have hF0 := hF
  unfold f_X0_suspectOneWay at hF
  refine q_iconst (pc := 0) hG dX0_suspectOneWay_0 ki_0 ?_
  refine q_istore_n (pc := 1) [(3, .int 0), (0, .ref a0), (1, .ref a1), (2, .int x2)] hG dX0_suspectOneWay_1 (by decide) rfl ?_
  refine q_aload_n (pc := 2) hG dX0_suspectOneWay_2 2 rfl ?_
  refine q_getI (pc := 3) hG fl_X0_31 dX0_suspectOneWay_3 hI tA1 ff_6_17 (fun v3 f3 g3 => ?_)
  replace hF := fx_I hF f3 rfl
  refine q_istore (pc := 6) [(4, .int v3), (3, .int 0), (0, .ref a0), (1, .ref a1), (2, .int x2)] hG dX0_suspectOneWay_6 (by decide) rfl ?_
  refine q_iconst (pc := 8) hG dX0_suspectOneWay_8 ki_0 ?_
  refine q_istore (pc := 9) [(5, .int 0), (4, .int v3), (3, .int 0), (0, .ref a0), (1, .ref a1), (2, .int x2)] hG dX0_suspectOneWay_9 (by decide) rfl ?_
  have J11 : ∀ (n11 : Nat) (p11_3 : Int32) (p11_4 : Int32) (p11_5 : Int32), (q_r p11_3 0 2147483647) → (q_r p11_5 0 64) → (fx_eq Fv (kL_X0_suspectOneWay_11 (fx_N σ) a1 x2.toInt a0 n11 p11_3.toInt p11_4.toInt p11_5.toInt)) → ((64 - p11_5.toInt).toNat < n11) → q_O X 0 0 τ σ 11 [(0, .ref a0), (1, .ref a1), (2, .int x2), (3, .int p11_3), (4, .int p11_4), (5, .int p11_5)] [] := by
    intro n11
    induction n11 with
    | zero => intro p11_3 p11_4 p11_5 r11_3 r11_5 hF hm11; exact absurd hm11 (Nat.not_lt_zero _)
    | succ n11 ih11 =>
      intro p11_3 p11_4 p11_5 r11_3 r11_5 hF hm11
      replace hF := (show fx_eq Fv (kB_X0_suspectOneWay_11 (kL_X0_suspectOneWay_11 (fx_N σ) a1 x2.toInt a0 n11) (fx_N σ) a1 x2.toInt a0 p11_3.toInt p11_4.toInt p11_5.toInt) from hF)
      unfold kB_X0_suspectOneWay_11 at hF
      refine q_iload (pc := 11) hG dX0_suspectOneWay_11 5 rfl ?_
      refine q_aload_n (pc := 13) hG dX0_suspectOneWay_13 1 rfl ?_
      refine q_getI (pc := 14) hG fl_X0_47 dX0_suspectOneWay_14 hI tA1 ff_6_0 (fun v14 f14 g14 => ?_)
      replace hF := fx_I hF f14 rfl
      refine q_icmp_ge (pc := 17) hG 70 dX0_suspectOneWay_17 rfl ?_ ?_
      · intro c17
        replace hF := fx_lt2 hF rfl rfl c17
        refine q_iconst (pc := 70) hG dX0_suspectOneWay_70 ki_0 ?_
        refine q_istore (pc := 71) [(5, .int 0), (0, .ref a0), (1, .ref a1), (2, .int x2), (3, .int p11_3), (4, .int p11_4)] hG dX0_suspectOneWay_71 (by decide) rfl ?_
        have J73 : ∀ (n73 : Nat) (p73_3 : Int32) (p73_5 : Int32) (σ73 : q_V), (q_r p73_5 0 129) → (q_S md_X0_suspectOneWay τ σ σ73) → (fx_eq Fv (kL_X0_suspectOneWay_73 p11_4.toInt a1 x2.toInt a0 n73 p73_3.toInt p73_5.toInt (fx_N σ73))) → ((129 - p73_5.toInt).toNat < n73) → q_O X 0 0 τ σ73 73 [(0, .ref a0), (1, .ref a1), (2, .int x2), (3, .int p73_3), (4, .int p11_4), (5, .int p73_5)] [] := by
          intro n73
          induction n73 with
          | zero => intro p73_3 p73_5 σ73 r73_5 hS73 hF hm73; exact absurd hm73 (Nat.not_lt_zero _)
          | succ n73 ih73 =>
            intro p73_3 p73_5 σ73 r73_5 hS73 hF hm73
            replace hF := (show fx_eq Fv (kB_X0_suspectOneWay_73 (kL_X0_suspectOneWay_73 p11_4.toInt a1 x2.toInt a0 n73) p11_4.toInt a1 x2.toInt a0 p73_3.toInt p73_5.toInt (fx_N σ73)) from hF)
            unfold kB_X0_suspectOneWay_73 at hF
            refine q_iload (pc := 73) hG dX0_suspectOneWay_73 5 rfl ?_
            refine q_sipush (pc := 75) hG dX0_suspectOneWay_75 ks_128 ?_
            refine q_icmp_gt (pc := 78) hG 139 dX0_suspectOneWay_78 rfl ?_ ?_
            · intro c78
              replace hF := fx_lt1 hF tl_128 rfl c78
              exact q_vrt hG hE dX0_suspectOneWay_139 ⟨hS73, (fx_end hF hF0)⟩
            intro c78
            replace hF := fx_lt2 hF tl_128 rfl c78
            refine q_iload_n (pc := 81) hG dX0_suspectOneWay_81 3 rfl ?_
            refine q_iload (pc := 82) hG dX0_suspectOneWay_82 4 rfl ?_
            refine q_icmp_gt (pc := 84) hG 139 dX0_suspectOneWay_84 rfl ?_ ?_
            · intro c84
              replace hF := fx_lt1 hF rfl rfl c84
              exact q_vrt hG hE dX0_suspectOneWay_139 ⟨hS73, (fx_end hF hF0)⟩
            intro c84
            replace hF := fx_lt2 hF rfl rfl c84
            refine q_aload_n (pc := 87) hG dX0_suspectOneWay_87 1 rfl ?_
            refine q_iload_n (pc := 88) hG dX0_suspectOneWay_88 2 rfl ?_
            refine q_iload_n (pc := 89) hG dX0_suspectOneWay_89 3 rfl ?_
            refine q_pS (pc := 90) [.ref a1, .int x2, .int p73_3] [] hG (c_X0_freeFrom τ σ73 a1 x2 p73_3 hS73.1 tA1) my_X0_freeFrom w740 w739 dX0_suspectOneWay_90 rfl rfl (Nat.le_of_ble_eq_true rfl) (by decide) (fun v90 p90 => ?_)
            replace hF := fx_E hF p90.2
            refine q_istore (pc := 93) [(6, .int v90), (0, .ref a0), (1, .ref a1), (2, .int x2), (3, .int p73_3), (4, .int p11_4), (5, .int p73_5)] hG dX0_suspectOneWay_93 (by decide) rfl ?_
            refine q_aload_n (pc := 95) hG dX0_suspectOneWay_95 2 rfl ?_
            refine q_iload_n (pc := 96) hG dX0_suspectOneWay_96 3 rfl ?_
            refine q_iload (pc := 97) hG dX0_suspectOneWay_97 0 rfl ?_
            refine q_iload (pc := 99) hG dX0_suspectOneWay_99 5 rfl ?_
            refine q_pS (pc := 101) [.ref a1, .int x2, .int v90, .int p11_4] [] hG (c_X0_nextHit τ σ73 a1 x2 v90 p11_4 hS73.1 tA1) my_X0_nextHit w746 w745 dX0_suspectOneWay_101 rfl rfl (Nat.le_of_ble_eq_true rfl) (by decide) (fun v101 p101 => ?_)
            replace hF := fx_E hF p101.2
            refine q_istore (pc := 104) [(7, .int v101), (6, .int v90), (0, .ref a0), (1, .ref a1), (2, .int x2), (3, .int p73_3), (4, .int p11_4), (5, .int p73_5)] hG dX0_suspectOneWay_104 (by decide) rfl ?_
            refine q_iload (pc := 106) hG dX0_suspectOneWay_106 0 rfl ?_
            refine q_iload (pc := 108) hG dX0_suspectOneWay_108 1 rfl ?_
            have J125 : ∀ (σ125 : q_V), (q_S md_X0_suspectOneWay τ σ σ125) → (fx_eq Fv (kJ_X0_suspectOneWay_125 v90.toInt v101.toInt p73_5.toInt (kL_X0_suspectOneWay_73 p11_4.toInt a1 x2.toInt a0 n73) (fx_N σ125))) → q_O X 0 0 τ σ125 125 [(0, .ref a0), (1, .ref a1), (2, .int x2), (4, .int p11_4), (5, .int p73_5), (6, .int v90), (7, .int v101)] [] := by
              intro σ125 hS125 hF
              unfold kJ_X0_suspectOneWay_125 at hF
              refine q_iload (pc := 125) hG dX0_suspectOneWay_125 5 rfl ?_
              refine q_iload (pc := 127) hG dX0_suspectOneWay_127 6 rfl ?_
              refine q_pS (pc := 129) [.int v90, .int v101] [] hG (c_J9_max_7cf53 τ σ125 v90 v101 hS125.1) my_J9_max_7cf53 w262 w737 dX0_suspectOneWay_129 rfl rfl (Nat.le_of_ble_eq_true rfl) (by decide) (fun v129 p129 => ?_)
              replace hF := fx_E hF p129.2.1
              refine q_istore_n (pc := 132) [(3, .int v129), (0, .ref a0), (1, .ref a1), (2, .int x2), (4, .int p11_4), (5, .int p73_5), (6, .int v90), (7, .int v101)] hG dX0_suspectOneWay_132 (by decide) rfl ?_
              obtain ⟨v133, e133⟩ : ∃ z : Int32, z = p73_5 + Int32.ofInt 1 := ⟨_, rfl⟩
              have r_1 := q_rle r73_5 rl_128 c78
              have h133 := q_incN (lo := 1) (hi := 129) r_1 (by decide) (by decide) e133
              replace hF := fx_add hF rfl rfl h133.1
              refine q_iinc (pc := 133) [(5, .int v133), (3, .int v129), (0, .ref a0), (1, .ref a1), (2, .int x2), (4, .int p11_4), (6, .int v90), (7, .int v101)] hG dX0_suspectOneWay_133 5 rfl e133 (by decide) rfl ?_
              refine q_goto (pc := 136) 73 hG dX0_suspectOneWay_136 rfl ?_
              refine q_lv [2, 3, 4, 1, 5, 0] rfl ?_
              exact ih73 v129 v133 σ125 (q_r.mono h133.2 (by decide)) hS125 hF (q_measU hm73 (by have o0 := c78; have o1 := h133.1; have o2 := r_1; have o3 := h133.2; have l4 := tl_128; unfold q_r at o2 o3; omega) (h133.2).2)
            refine q_icmp_le (pc := 110) hG 125 dX0_suspectOneWay_110 rfl ?_ ?_
            · intro c110
              replace hF := fx_lt2 hF rfl rfl c110
              refine q_lv [2, 3, 4, 6, 7, 1, 0] rfl ?_
              exact J125 σ73 hS73 hF
            intro c110
            replace hF := fx_lt1 hF rfl rfl c110
            refine q_aload_n (pc := 113) hG dX0_suspectOneWay_113 2 rfl ?_
            refine q_iload (pc := 114) hG dX0_suspectOneWay_114 1 rfl ?_
            refine q_iload_n (pc := 116) hG dX0_suspectOneWay_116 4 rfl ?_
            refine q_iload (pc := 117) hG dX0_suspectOneWay_117 0 rfl ?_
            refine q_iload (pc := 119) hG dX0_suspectOneWay_119 1 rfl ?_
            refine q_isub (pc := 121) hG dX0_suspectOneWay_121 (fun v121 e121 => ?_)
            replace hF := fx_B_sub hF rfl rfl e121
            refine q_cVv (pc := 122) [.int v90, .int x2, .int v121] [] hG (c_X0_note τ σ73 a0 v90 x2 v121 hS73.1 tA0) my_X0_note mv_X0_note w748 dX0_suspectOneWay_122 tA0 (by decide) rfl rfl (Nat.le_of_ble_eq_true rfl) (by decide) (fun s122 p122 => ?_)
            have w122 := hS73.trans p122.1 rfl
            replace hF := fx_S hF p122.2
            refine q_lv [2, 3, 4, 6, 7, 1, 0] rfl ?_
            exact J125 s122 w122 hF
        refine q_lv [1, 2, 3, 4, 5, 0] rfl ?_
        exact J73 ((129 - (0 : Int32).toInt).toNat + 1) p11_3 0 σ (q_r.mono rl_0 (by decide)) hS0 (by rw [tl_0]; exact hF) (Nat.lt_succ_self _)
      intro c17
      replace hF := fx_lt1 hF rfl rfl c17
      refine q_aload_n (pc := 20) hG dX0_suspectOneWay_20 1 rfl ?_
      refine q_iload (pc := 21) hG dX0_suspectOneWay_21 5 rfl ?_
      have r_2 := q_rlt r11_5 g14 c17 63 (by decide)
      refine q_pS (pc := 23) [.ref a1, .int p11_5] [] hG (c_X0_isHitByCar τ σ a1 p11_5 hI tA1 r_2) my_X0_isHitByCar w732 w731 dX0_suspectOneWay_23 rfl rfl (Nat.le_of_ble_eq_true rfl) (by decide) (fun v23 p23 => ?_)
      replace hF := fx_E hF p23.2
      have J64 : ∀ (p64_3 : Int32) (p64_4 : Int32), (q_r p64_3 0 2147483647) → (fx_eq Fv (kJ_X0_suspectOneWay_64 p11_5.toInt (kL_X0_suspectOneWay_11 (fx_N σ) a1 x2.toInt a0 n11) p64_3.toInt p64_4.toInt)) → q_O X 0 0 τ σ 64 [(0, .ref a0), (1, .ref a1), (2, .int x2), (3, .int p64_3), (4, .int p64_4), (5, .int p11_5)] [] := by
        intro p64_3 p64_4 r64_3 hF
        unfold kJ_X0_suspectOneWay_64 at hF
        obtain ⟨v64, e64⟩ : ∃ z : Int32, z = p11_5 + Int32.ofInt 1 := ⟨_, rfl⟩
        have h64 := q_incN (lo := 1) (hi := 64) r_2 (by decide) (by decide) e64
        replace hF := fx_add hF rfl rfl h64.1
        refine q_iinc (pc := 64) [(5, .int v64), (0, .ref a0), (1, .ref a1), (2, .int x2), (3, .int p64_3), (4, .int p64_4)] hG dX0_suspectOneWay_64 5 rfl e64 (by decide) rfl ?_
        refine q_goto (pc := 67) 11 hG dX0_suspectOneWay_67 rfl ?_
        refine q_lv [1, 2, 3, 4, 5, 0] rfl ?_
        exact ih11 p64_3 p64_4 v64 r64_3 (q_r.mono h64.2 (by decide)) hF (q_measU hm11 (by have o0 := c17; have o1 := h64.1; have o2 := r_2; have o3 := g14; have o4 := h64.2; unfold q_r at o2 o3 o4; omega) (h64.2).2)
      refine q_if_eq (pc := 26) hG 64 dX0_suspectOneWay_26 rfl ?_ ?_
      · intro c26
        replace hF := fx_eq1 hF rfl rfl c26
        refine q_lv [0, 1, 2, 3, 4, 5] rfl ?_
        exact J64 p11_3 p11_4 r11_3 hF
      intro c26
      replace hF := fx_eq2 hF rfl rfl c26
      refine q_aload_n (pc := 29) hG dX0_suspectOneWay_29 1 rfl ?_
      refine q_iload (pc := 30) hG dX0_suspectOneWay_30 5 rfl ?_
      refine q_iload_n (pc := 32) hG dX0_suspectOneWay_32 2 rfl ?_
      refine q_pS (pc := 33) [.ref a1, .int p11_5, .int x2] [] hG (c_X0_hitsFrom τ σ a1 p11_5 x2 hI tA1 r_2) my_X0_hitsFrom w735 w734 dX0_suspectOneWay_33 rfl rfl (Nat.le_of_ble_eq_true rfl) (by decide) (fun v33 p33 => ?_)
      replace hF := fx_E hF p33.2
      refine q_istore (pc := 36) [(6, .int v33), (0, .ref a0), (1, .ref a1), (2, .int x2), (3, .int p11_3), (4, .int p11_4), (5, .int p11_5)] hG dX0_suspectOneWay_36 (by decide) rfl ?_
      refine q_iload_n (pc := 38) hG dX0_suspectOneWay_38 4 rfl ?_
      refine q_iload (pc := 39) hG dX0_suspectOneWay_39 0 rfl ?_
      refine q_pS (pc := 41) [.int p11_3, .int v33] [] hG (c_J9_max_7cf53 τ σ p11_3 v33 hI) my_J9_max_7cf53 w262 w737 dX0_suspectOneWay_41 rfl rfl (Nat.le_of_ble_eq_true rfl) (by decide) (fun v41 p41 => ?_)
      replace hF := fx_E hF p41.2.1
      refine q_istore_n (pc := 44) [(3, .int v41), (6, .int v33), (0, .ref a0), (1, .ref a1), (2, .int x2), (4, .int p11_4), (5, .int p11_5)] hG dX0_suspectOneWay_44 (by decide) rfl ?_
      refine q_iload (pc := 45) hG dX0_suspectOneWay_45 5 rfl ?_
      refine q_iload (pc := 47) hG dX0_suspectOneWay_47 1 rfl ?_
      refine q_aload_n (pc := 49) hG dX0_suspectOneWay_49 3 rfl ?_
      refine q_getR (pc := 50) (k2 := 122) (n2 := 64) hG fl_X0_82 dX0_suspectOneWay_50 hI tA1 ff_6_7 (fun b50 f50 T50 => ?_)
      replace hF := fx_R hF f50 rfl
      refine q_iload (pc := 53) hG dX0_suspectOneWay_53 6 rfl ?_
      refine q_iald (pc := 55) hG dX0_suspectOneWay_55 hI ai_122 T50 (q_ix r_2 (by decide)) (fun v55 f55 g55 => ?_)
      replace hF := fx_I hF f55 rfl
      refine q_iadd (pc := 56) hG dX0_suspectOneWay_56 (fun v56 e56 => ?_)
      replace hF := fx_B_add hF rfl rfl e56
      refine q_iconst (pc := 57) hG dX0_suspectOneWay_57 ki_1 ?_
      refine q_isub (pc := 58) hG dX0_suspectOneWay_58 (fun v58 e58 => ?_)
      replace hF := fx_B_sub hF rfl tl_1 e58
      refine q_pS (pc := 59) [.int p11_4, .int v58] [] hG (c_J9_min_7cf53 τ σ p11_4 v58 hI) my_J9_min_7cf53 w250 w738 dX0_suspectOneWay_59 rfl rfl (Nat.le_of_ble_eq_true rfl) (by decide) (fun v59 p59 => ?_)
      replace hF := fx_E hF p59.2.1
      refine q_istore (pc := 62) [(4, .int v59), (3, .int v41), (6, .int v33), (0, .ref a0), (1, .ref a1), (2, .int x2), (5, .int p11_5)] hG dX0_suspectOneWay_62 (by decide) rfl ?_
      refine q_lv [3, 4, 5, 1, 0, 6] rfl ?_
      have r_3 := q_maxN (lo := 0) (hi := 2147483647) p41.2.2 r11_3 p33.1 (by decide)
      exact J64 v41 v59 r_3 hF
  refine q_lv [3, 4, 5, 2, 1, 0] rfl ?_
  exact J11 ((64 - (0 : Int32).toInt).toNat + 1) 0 v3 0 (q_r.mono rl_0 (by decide)) (q_r.mono rl_0 (by decide)) (by rw [tl_0]; exact hF) (Nat.lt_succ_self _)
theorem dX0_suspect_0 : decode cX0_suspect 0 = .ok (.aload_n 0, 1) := by decide +kernel
theorem dX0_suspect_1 : decode cX0_suspect 1 = .ok (.iconst 0, 1) := by decide +kernel
theorem dX0_suspect_2 : decode cX0_suspect 2 = .ok (.putfield 15, 3) := by decide +kernel
theorem dX0_suspect_5 : decode cX0_suspect 5 = .ok (.aload_n 0, 1) := by decide +kernel
theorem dX0_suspect_6 : decode cX0_suspect 6 = .ok (.bipush (-2), 2) := by decide +kernel
theorem dX0_suspect_8 : decode cX0_suspect 8 = .ok (.putfield 19, 3) := by decide +kernel
theorem dX0_suspect_11 : decode cX0_suspect 11 = .ok (.aload_n 0, 1) := by decide +kernel
theorem dX0_suspect_12 : decode cX0_suspect 12 = .ok (.bipush (-2), 2) := by decide +kernel
theorem dX0_suspect_14 : decode cX0_suspect 14 = .ok (.putfield 22, 3) := by decide +kernel
theorem dX0_suspect_17 : decode cX0_suspect 17 = .ok (.iconst 0, 1) := by decide +kernel
theorem dX0_suspect_18 : decode cX0_suspect 18 = .ok (.istore_n 2, 1) := by decide +kernel
theorem dX0_suspect_19 : decode cX0_suspect 19 = .ok (.iload_n 2, 1) := by decide +kernel
theorem dX0_suspect_20 : decode cX0_suspect 20 = .ok (.iconst 1, 1) := by decide +kernel
theorem dX0_suspect_21 : decode cX0_suspect 21 = .ok (.if_icmp .gt 15, 3) := by decide +kernel
theorem dX0_suspect_24 : decode cX0_suspect 24 = .ok (.aload_n 0, 1) := by decide +kernel
theorem dX0_suspect_25 : decode cX0_suspect 25 = .ok (.aload_n 1, 1) := by decide +kernel
theorem dX0_suspect_26 : decode cX0_suspect 26 = .ok (.iload_n 2, 1) := by decide +kernel
theorem dX0_suspect_27 : decode cX0_suspect 27 = .ok (.invokevirtual 66, 3) := by decide +kernel
theorem dX0_suspect_30 : decode cX0_suspect 30 = .ok (.iinc 2 1, 3) := by decide +kernel
theorem dX0_suspect_33 : decode cX0_suspect 33 = .ok (.goto (-14), 3) := by decide +kernel
theorem dX0_suspect_36 : decode cX0_suspect 36 = .ok (.return_, 1) := by decide +kernel
def md_X0_suspect : List (Nat × Nat) := [(0, 1), (0, 2), (0, 3)]
set_option maxRecDepth 100000 in
set_option maxHeartbeats 4000000 in
theorem c_X0_suspect {l : Launch} {D : q_D} (τ : q_T) (σ : q_V) (a0 : Nat) (a1 : Nat) (hI : q_I τ σ) (tA0 : τ a0 = some (0, 1)) (tA1 : τ a1 = some (6, 1)) : q_Cv l D yX0_suspect cX0_suspect 3 none 5 117 τ σ [.ref a0, .ref a1] (fun σ1 => q_S md_X0_suspect τ σ σ1 ∧ (fx_N σ1 = f_X0_suspect (fx_N σ) a0 a1)) := by
  refine q_metv rfl (Nat.le_of_ble_eq_true rfl) (fun X hG hE => ?_)
  show q_O X 0 0 τ σ 0 [(0, .ref a0), (1, .ref a1)] []
  have hS0 : q_S md_X0_suspect τ σ σ := q_S.rf hI
  obtain ⟨Fv, hF⟩ : ∃ z, fx_eq z (f_X0_suspect (fx_N σ) a0 a1) := ⟨_, fx_rf⟩
  have hF0 := hF
  unfold f_X0_suspect at hF
  refine q_aload_n (pc := 0) hG dX0_suspect_0 0 rfl ?_
  refine q_iconst (pc := 1) hG dX0_suspect_1 ki_0 ?_
  refine q_putI (pc := 2) hG fl_X0_15 dX0_suspect_2 hS0 tA0 ff_0_1 rl_0 (by decide) rfl (fun s2 u2 w2 => ?_)
  replace hF := fx_P hF u2 rfl tl_0
  have m2 : s2 a0 1 = .int 0 := by rw [u2]; exact q_up_same
  refine q_aload_n (pc := 5) hG dX0_suspect_5 0 rfl ?_
  refine q_bipush (pc := 6) hG dX0_suspect_6 kb_m2 ?_
  refine q_putI (pc := 8) hG fl_X0_19 dX0_suspect_8 w2 tA0 ff_0_2 rl_m2 (by decide) rfl (fun s8 u8 w8 => ?_)
  replace hF := fx_P hF u8 rfl tl_m2
  have m8 : s8 a0 2 = .int (-2) := by rw [u8]; exact q_up_same
  refine q_aload_n (pc := 11) hG dX0_suspect_11 0 rfl ?_
  refine q_bipush (pc := 12) hG dX0_suspect_12 kb_m2 ?_
  refine q_putI (pc := 14) hG fl_X0_22 dX0_suspect_14 w8 tA0 ff_0_3 rl_m2 (by decide) rfl (fun s14 u14 w14 => ?_)
  replace hF := fx_P hF u14 rfl tl_m2
  have m14 : s14 a0 3 = .int (-2) := by rw [u14]; exact q_up_same
  refine q_iconst (pc := 17) hG dX0_suspect_17 ki_0 ?_
  refine q_istore_n (pc := 18) [(2, .int 0), (0, .ref a0), (1, .ref a1)] hG dX0_suspect_18 (by decide) rfl ?_
  have J19 : ∀ (n19 : Nat) (p19_2 : Int32) (σ19 : q_V), (q_r p19_2 0 2) → (q_S md_X0_suspect τ σ σ19) → (fx_eq Fv (kL_X0_suspect_19 a0 a1 n19 p19_2.toInt (fx_N σ19))) → ((2 - p19_2.toInt).toNat < n19) → q_O X 0 0 τ σ19 19 [(0, .ref a0), (1, .ref a1), (2, .int p19_2)] [] := by
    intro n19
    induction n19 with
    | zero => intro p19_2 σ19 r19_2 hS19 hF hm19; exact absurd hm19 (Nat.not_lt_zero _)
    | succ n19 ih19 =>
      intro p19_2 σ19 r19_2 hS19 hF hm19
      replace hF := (show fx_eq Fv (kB_X0_suspect_19 (kL_X0_suspect_19 a0 a1 n19) a0 a1 p19_2.toInt (fx_N σ19)) from hF)
      unfold kB_X0_suspect_19 at hF
      refine q_iload_n (pc := 19) hG dX0_suspect_19 2 rfl ?_
      refine q_iconst (pc := 20) hG dX0_suspect_20 ki_1 ?_
      refine q_icmp_gt (pc := 21) hG 36 dX0_suspect_21 rfl ?_ ?_
      · intro c21
        replace hF := fx_lt1 hF tl_1 rfl c21
        exact q_vrt hG hE dX0_suspect_36 ⟨hS19, (fx_end hF hF0)⟩
      intro c21
      replace hF := fx_lt2 hF tl_1 rfl c21
      refine q_aload_n (pc := 24) hG dX0_suspect_24 0 rfl ?_
      refine q_aload_n (pc := 25) hG dX0_suspect_25 1 rfl ?_
      refine q_iload_n (pc := 26) hG dX0_suspect_26 2 rfl ?_
      refine q_cVv (pc := 27) [.ref a1, .int p19_2] [] hG (c_X0_suspectOneWay τ σ19 a0 a1 p19_2 hS19.1 tA0 tA1) my_X0_suspectOneWay mv_X0_suspectOneWay w728 dX0_suspect_27 tA0 (by decide) rfl rfl (Nat.le_of_ble_eq_true rfl) (by decide) (fun s27 p27 => ?_)
      have w27 := hS19.trans p27.1 rfl
      replace hF := fx_S hF p27.2
      obtain ⟨v30, e30⟩ : ∃ z : Int32, z = p19_2 + Int32.ofInt 1 := ⟨_, rfl⟩
      have r_1 := q_rle r19_2 rl_1 c21
      have h30 := q_incN (lo := 1) (hi := 2) r_1 (by decide) (by decide) e30
      replace hF := fx_add hF rfl rfl h30.1
      refine q_iinc (pc := 30) [(2, .int v30), (0, .ref a0), (1, .ref a1)] hG dX0_suspect_30 2 rfl e30 (by decide) rfl ?_
      refine q_goto (pc := 33) 19 hG dX0_suspect_33 rfl ?_
      refine q_lv [1, 2, 0] rfl ?_
      exact ih19 v30 s27 (q_r.mono h30.2 (by decide)) w27 hF (q_measU hm19 (by have o0 := c21; have o1 := h30.1; have o2 := r_1; have o3 := h30.2; have l4 := tl_1; unfold q_r at o2 o3; omega) (h30.2).2)
  refine q_lv [1, 2, 0] rfl ?_
  exact J19 ((2 - (0 : Int32).toInt).toNat + 1) 0 s14 (q_r.mono rl_0 (by decide)) w14 (by rw [tl_0]; exact hF) (Nat.lt_succ_self _)
