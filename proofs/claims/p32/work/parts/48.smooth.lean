/-! laid by wip/p2/build.py -/
theorem dX12_laysSmooth_0 : decode cX12_laysSmooth 0 = .ok (.aload_n 0, 1) := by decide +kernel
theorem dX12_laysSmooth_1 : decode cX12_laysSmooth 1 = .ok (.getfield 7, 3) := by decide +kernel
theorem dX12_laysSmooth_4 : decode cX12_laysSmooth 4 = .ok (.sipush 512, 3) := by decide +kernel
theorem dX12_laysSmooth_7 : decode cX12_laysSmooth 7 = .ok (.iaload, 1) := by decide +kernel
theorem dX12_laysSmooth_8 : decode cX12_laysSmooth 8 = .ok (.istore_n 2, 1) := by decide +kernel
theorem dX12_laysSmooth_9 : decode cX12_laysSmooth 9 = .ok (.bipush (-30), 2) := by decide +kernel
theorem dX12_laysSmooth_11 : decode cX12_laysSmooth 11 = .ok (.istore_n 3, 1) := by decide +kernel
theorem dX12_laysSmooth_12 : decode cX12_laysSmooth 12 = .ok (.iload_n 3, 1) := by decide +kernel
theorem dX12_laysSmooth_13 : decode cX12_laysSmooth 13 = .ok (.bipush 30, 2) := by decide +kernel
theorem dX12_laysSmooth_15 : decode cX12_laysSmooth 15 = .ok (.if_icmp .gt 26, 3) := by decide +kernel
theorem dX12_laysSmooth_18 : decode cX12_laysSmooth 18 = .ok (.aload_n 0, 1) := by decide +kernel
theorem dX12_laysSmooth_19 : decode cX12_laysSmooth 19 = .ok (.getfield 65, 3) := by decide +kernel
theorem dX12_laysSmooth_22 : decode cX12_laysSmooth 22 = .ok (.bipush 61, 2) := by decide +kernel
theorem dX12_laysSmooth_24 : decode cX12_laysSmooth 24 = .ok (.iload_n 2, 1) := by decide +kernel
theorem dX12_laysSmooth_25 : decode cX12_laysSmooth 25 = .ok (.iconst 1, 1) := by decide +kernel
theorem dX12_laysSmooth_26 : decode cX12_laysSmooth 26 = .ok (.isub, 1) := by decide +kernel
theorem dX12_laysSmooth_27 : decode cX12_laysSmooth 27 = .ok (.imul, 1) := by decide +kernel
theorem dX12_laysSmooth_28 : decode cX12_laysSmooth 28 = .ok (.iload_n 3, 1) := by decide +kernel
theorem dX12_laysSmooth_29 : decode cX12_laysSmooth 29 = .ok (.iadd, 1) := by decide +kernel
theorem dX12_laysSmooth_30 : decode cX12_laysSmooth 30 = .ok (.bipush 30, 2) := by decide +kernel
theorem dX12_laysSmooth_32 : decode cX12_laysSmooth 32 = .ok (.iadd, 1) := by decide +kernel
theorem dX12_laysSmooth_33 : decode cX12_laysSmooth 33 = .ok (.iconst 0, 1) := by decide +kernel
theorem dX12_laysSmooth_34 : decode cX12_laysSmooth 34 = .ok (.iastore, 1) := by decide +kernel
theorem dX12_laysSmooth_35 : decode cX12_laysSmooth 35 = .ok (.iinc 3 1, 3) := by decide +kernel
theorem dX12_laysSmooth_38 : decode cX12_laysSmooth 38 = .ok (.goto (-26), 3) := by decide +kernel
theorem dX12_laysSmooth_41 : decode cX12_laysSmooth 41 = .ok (.iload_n 2, 1) := by decide +kernel
theorem dX12_laysSmooth_42 : decode cX12_laysSmooth 42 = .ok (.iconst 2, 1) := by decide +kernel
theorem dX12_laysSmooth_43 : decode cX12_laysSmooth 43 = .ok (.isub, 1) := by decide +kernel
theorem dX12_laysSmooth_44 : decode cX12_laysSmooth 44 = .ok (.istore_n 3, 1) := by decide +kernel
theorem dX12_laysSmooth_45 : decode cX12_laysSmooth 45 = .ok (.iload_n 3, 1) := by decide +kernel
theorem dX12_laysSmooth_46 : decode cX12_laysSmooth 46 = .ok (.ifCond .lt 95, 3) := by decide +kernel
theorem dX12_laysSmooth_49 : decode cX12_laysSmooth 49 = .ok (.bipush (-30), 2) := by decide +kernel
theorem dX12_laysSmooth_51 : decode cX12_laysSmooth 51 = .ok (.istore 4, 2) := by decide +kernel
theorem dX12_laysSmooth_53 : decode cX12_laysSmooth 53 = .ok (.iload 4, 2) := by decide +kernel
theorem dX12_laysSmooth_55 : decode cX12_laysSmooth 55 = .ok (.bipush 30, 2) := by decide +kernel
theorem dX12_laysSmooth_57 : decode cX12_laysSmooth 57 = .ok (.if_icmp .gt 78, 3) := by decide +kernel
theorem dX12_laysSmooth_60 : decode cX12_laysSmooth 60 = .ok (.ldc_w 318, 3) := by decide +kernel
theorem dX12_laysSmooth_63 : decode cX12_laysSmooth 63 = .ok (.istore 5, 2) := by decide +kernel
theorem dX12_laysSmooth_65 : decode cX12_laysSmooth 65 = .ok (.bipush (-30), 2) := by decide +kernel
theorem dX12_laysSmooth_67 : decode cX12_laysSmooth 67 = .ok (.iload 4, 2) := by decide +kernel
theorem dX12_laysSmooth_69 : decode cX12_laysSmooth 69 = .ok (.iload_n 1, 1) := by decide +kernel
theorem dX12_laysSmooth_70 : decode cX12_laysSmooth 70 = .ok (.isub, 1) := by decide +kernel
theorem dX12_laysSmooth_71 : decode cX12_laysSmooth 71 = .ok (.invokestatic 260, 3) := by decide +kernel
theorem dX12_laysSmooth_74 : decode cX12_laysSmooth 74 = .ok (.istore 6, 2) := by decide +kernel
theorem dX12_laysSmooth_76 : decode cX12_laysSmooth 76 = .ok (.iload 6, 2) := by decide +kernel
theorem dX12_laysSmooth_78 : decode cX12_laysSmooth 78 = .ok (.bipush 30, 2) := by decide +kernel
theorem dX12_laysSmooth_80 : decode cX12_laysSmooth 80 = .ok (.iload 4, 2) := by decide +kernel
theorem dX12_laysSmooth_82 : decode cX12_laysSmooth 82 = .ok (.iload_n 1, 1) := by decide +kernel
theorem dX12_laysSmooth_83 : decode cX12_laysSmooth 83 = .ok (.iadd, 1) := by decide +kernel
theorem dX12_laysSmooth_84 : decode cX12_laysSmooth 84 = .ok (.invokestatic 257, 3) := by decide +kernel
theorem dX12_laysSmooth_87 : decode cX12_laysSmooth 87 = .ok (.if_icmp .gt 25, 3) := by decide +kernel
theorem dX12_laysSmooth_90 : decode cX12_laysSmooth 90 = .ok (.iload 5, 2) := by decide +kernel
theorem dX12_laysSmooth_92 : decode cX12_laysSmooth 92 = .ok (.aload_n 0, 1) := by decide +kernel
theorem dX12_laysSmooth_93 : decode cX12_laysSmooth 93 = .ok (.iload_n 3, 1) := by decide +kernel
theorem dX12_laysSmooth_94 : decode cX12_laysSmooth 94 = .ok (.iconst 1, 1) := by decide +kernel
theorem dX12_laysSmooth_95 : decode cX12_laysSmooth 95 = .ok (.iadd, 1) := by decide +kernel
theorem dX12_laysSmooth_96 : decode cX12_laysSmooth 96 = .ok (.iload 6, 2) := by decide +kernel
theorem dX12_laysSmooth_98 : decode cX12_laysSmooth 98 = .ok (.invokevirtual 319, 3) := by decide +kernel
theorem dX12_laysSmooth_101 : decode cX12_laysSmooth 101 = .ok (.invokestatic 257, 3) := by decide +kernel
theorem dX12_laysSmooth_104 : decode cX12_laysSmooth 104 = .ok (.istore 5, 2) := by decide +kernel
theorem dX12_laysSmooth_106 : decode cX12_laysSmooth 106 = .ok (.iinc 6 1, 3) := by decide +kernel
theorem dX12_laysSmooth_109 : decode cX12_laysSmooth 109 = .ok (.goto (-33), 3) := by decide +kernel
theorem dX12_laysSmooth_112 : decode cX12_laysSmooth 112 = .ok (.aload_n 0, 1) := by decide +kernel
theorem dX12_laysSmooth_113 : decode cX12_laysSmooth 113 = .ok (.getfield 65, 3) := by decide +kernel
theorem dX12_laysSmooth_116 : decode cX12_laysSmooth 116 = .ok (.bipush 61, 2) := by decide +kernel
theorem dX12_laysSmooth_118 : decode cX12_laysSmooth 118 = .ok (.iload_n 3, 1) := by decide +kernel
theorem dX12_laysSmooth_119 : decode cX12_laysSmooth 119 = .ok (.imul, 1) := by decide +kernel
theorem dX12_laysSmooth_120 : decode cX12_laysSmooth 120 = .ok (.iload 4, 2) := by decide +kernel
theorem dX12_laysSmooth_122 : decode cX12_laysSmooth 122 = .ok (.iadd, 1) := by decide +kernel
theorem dX12_laysSmooth_123 : decode cX12_laysSmooth 123 = .ok (.bipush 30, 2) := by decide +kernel
theorem dX12_laysSmooth_125 : decode cX12_laysSmooth 125 = .ok (.iadd, 1) := by decide +kernel
theorem dX12_laysSmooth_126 : decode cX12_laysSmooth 126 = .ok (.iload 5, 2) := by decide +kernel
theorem dX12_laysSmooth_128 : decode cX12_laysSmooth 128 = .ok (.iastore, 1) := by decide +kernel
theorem dX12_laysSmooth_129 : decode cX12_laysSmooth 129 = .ok (.iinc 4 1, 3) := by decide +kernel
theorem dX12_laysSmooth_132 : decode cX12_laysSmooth 132 = .ok (.goto (-79), 3) := by decide +kernel
theorem dX12_laysSmooth_135 : decode cX12_laysSmooth 135 = .ok (.iinc 3 (-1), 3) := by decide +kernel
theorem dX12_laysSmooth_138 : decode cX12_laysSmooth 138 = .ok (.goto (-93), 3) := by decide +kernel
theorem dX12_laysSmooth_141 : decode cX12_laysSmooth 141 = .ok (.return_, 1) := by decide +kernel
def md_X12_laysSmooth : List (Nat × Nat) := [(164, 0)]
set_option maxRecDepth 100000 in
set_option maxHeartbeats 4000000 in
theorem c_X12_laysSmooth {l : Launch} {D : q_D} (τ : q_T) (σ : q_V) (a0 : Nat) (x1 : Int32) (hI : q_I τ σ) (tA0 : τ a0 = some (10, 1)) (rA1 : q_r x1 0 9) : q_Cv l D yX12_laysSmooth cX12_laysSmooth 7 none 2 42 τ σ [.ref a0, .int x1] (fun σ1 => q_S md_X12_laysSmooth τ σ σ1 ∧ (∀ (bn bo : Nat) (m : Int32), σ a0 0 = .ref bn → σ a0 30 = .ref bo → σ bn 512 = .int m → q_so (σ bn) (σ1 bo) x1.toInt m.toInt (-1) (-30))) := by
  refine q_metv rfl (Nat.le_of_ble_eq_true rfl) (fun X hG hE => ?_)
  show q_O X 0 0 τ σ 0 [(0, .ref a0), (1, .int x1)] []
  have hS0 : q_S md_X12_laysSmooth τ σ σ := q_S.rf hI
  obtain ⟨q_1b, q_1f, q_1T⟩ := (hI a0 10 1 tA0 0 (by decide)).ref (k := 100) (n := 549) rfl
  obtain ⟨q_2v, q_2f, q_2r⟩ := (hI q_1b 100 549 q_1T 512 (by decide)).int (lo := 8) (hi := 64) rfl
  have q_2g : σ q_1b (512 : Int32).toInt.toNat = .int q_2v := q_2f
  obtain ⟨q_3b, q_3f, q_3T⟩ := (hI a0 10 1 tA0 30 (by decide)).ref (k := 164) (n := 3904) rfl
  refine q_aload_n (pc := 0) hG dX12_laysSmooth_0 0 rfl ?_
  refine q_getV (pc := 1) (v := .ref q_1b) hG fl_X12_7 dX12_laysSmooth_1 tA0 q_1f ?_
  refine q_sipush (pc := 4) hG dX12_laysSmooth_4 ks_512 ?_
  refine q_ialdV (pc := 7) (v := .int q_2v) hG dX12_laysSmooth_7 q_1T (by decide) (by decide) (q_ix rl_512 (by decide)) q_2g ?_
  refine q_istore_n (pc := 8) [(2, .int q_2v), (0, .ref a0), (1, .int x1)] hG dX12_laysSmooth_8 (by decide) rfl ?_
  refine q_bipush (pc := 9) hG dX12_laysSmooth_9 kb_m30 ?_
  refine q_istore_n (pc := 11) [(3, .int (-30)), (2, .int q_2v), (0, .ref a0), (1, .int x1)] hG dX12_laysSmooth_11 (by decide) rfl ?_
  have J12 : ∀ (n12 : Nat) (p12_3 : Int32) (σ12 : q_V), (q_r p12_3 (-30) 31) → (q_S md_X12_laysSmooth τ σ σ12) → (q_so (σ q_1b) (σ12 q_3b) x1.toInt q_2v.toInt (q_2v.toInt - 1) p12_3.toInt) → ((31 - p12_3.toInt).toNat < n12) → q_O X 0 0 τ σ12 12 [(0, .ref a0), (1, .int x1), (2, .int q_2v), (3, .int p12_3)] [] := by
    intro n12
    induction n12 with
    | zero => intro p12_3 σ12 r12_3 hS12 iS12 hm12; exact absurd hm12 (Nat.not_lt_zero _)
    | succ n12 ih12 =>
      intro p12_3 σ12 r12_3 hS12 iS12 hm12
      refine q_iload_n (pc := 12) hG dX12_laysSmooth_12 3 rfl ?_
      refine q_bipush (pc := 13) hG dX12_laysSmooth_13 kb_30 ?_
      refine q_icmp_gt (pc := 15) hG 41 dX12_laysSmooth_15 rfl ?_ ?_
      · intro c15
        refine q_iload_n (pc := 41) hG dX12_laysSmooth_41 2 rfl ?_
        refine q_iconst (pc := 42) hG dX12_laysSmooth_42 ki_2 ?_
        refine q_isub (pc := 43) hG dX12_laysSmooth_43 (fun v43 e43 => ?_)
        refine q_istore_n (pc := 44) [(3, .int v43), (0, .ref a0), (1, .int x1), (2, .int q_2v)] hG dX12_laysSmooth_44 (by decide) rfl ?_
        have J45 : ∀ (n45 : Nat) (p45_3 : Int32) (σ45 : q_V), (q_r p45_3 (-1) 62) → (q_S md_X12_laysSmooth τ σ σ45) → (q_so (σ q_1b) (σ45 q_3b) x1.toInt q_2v.toInt p45_3.toInt (-30)) → (p45_3.toInt ≤ q_2v.toInt - 2) → ((p45_3.toInt - (-1)).toNat < n45) → q_O X 0 0 τ σ45 45 [(0, .ref a0), (1, .int x1), (3, .int p45_3)] [] := by
          intro n45
          induction n45 with
          | zero => intro p45_3 σ45 r45_3 hS45 iS45 iK45 hm45; exact absurd hm45 (Nat.not_lt_zero _)
          | succ n45 ih45 =>
            intro p45_3 σ45 r45_3 hS45 iS45 iK45 hm45
            refine q_iload_n (pc := 45) hG dX12_laysSmooth_45 2 rfl ?_
            refine q_if_lt (pc := 46) hG 141 dX12_laysSmooth_46 rfl ?_ ?_
            · intro c46
              have r_4 := q_zlt r45_3 c46
              have r_5 := (q_subN (lo := 6) (hi := 62) e43 q_2r rl_2 (by decide)).2
              exact q_vrt hG hE dX12_laysSmooth_141 ⟨hS45, (fun bn bo m h1 h2 h3 => by cases h1.symm.trans q_1f; cases h2.symm.trans q_3f; cases h3.symm.trans (show σ _ 512 = _ from q_2g); have q := iS45; rw [show p45_3.toInt = -1 from (by have o0 := iK45; have o1 := c46; have o2 := (q_subN (lo := 6) (hi := 62) e43 q_2r rl_2 (by decide)).1; have o3 := r_4; have o4 := q_2r; have o5 := r_5; have l6 := tl_2; unfold q_r at o3 o4 o5; omega)] at q; exact q)⟩
            intro c46
            refine q_bipush (pc := 49) hG dX12_laysSmooth_49 kb_m30 ?_
            refine q_istore (pc := 51) [(4, .int (-30)), (0, .ref a0), (1, .int x1), (3, .int p45_3)] hG dX12_laysSmooth_51 (by decide) rfl ?_
            have J53 : ∀ (n53 : Nat) (p53_4 : Int32) (σ53 : q_V), (q_r p53_4 (-30) 31) → (q_S md_X12_laysSmooth τ σ σ53) → (q_so (σ q_1b) (σ53 q_3b) x1.toInt q_2v.toInt p45_3.toInt p53_4.toInt) → ((31 - p53_4.toInt).toNat < n53) → q_O X 0 0 τ σ53 53 [(0, .ref a0), (1, .int x1), (3, .int p45_3), (4, .int p53_4)] [] := by
              intro n53
              induction n53 with
              | zero => intro p53_4 σ53 r53_4 hS53 iS53 hm53; exact absurd hm53 (Nat.not_lt_zero _)
              | succ n53 ih53 =>
                intro p53_4 σ53 r53_4 hS53 iS53 hm53
                refine q_iload (pc := 53) hG dX12_laysSmooth_53 3 rfl ?_
                refine q_bipush (pc := 55) hG dX12_laysSmooth_55 kb_30 ?_
                refine q_icmp_gt (pc := 57) hG 135 dX12_laysSmooth_57 rfl ?_ ?_
                · intro c57
                  obtain ⟨v135, e135⟩ : ∃ z : Int32, z = p45_3 + Int32.ofInt (-1) := ⟨_, rfl⟩
                  have r_6 := q_zge r45_3 c46
                  have h135 := q_incN (lo := (-1)) (hi := 61) r_6 (by decide) (by decide) e135
                  refine q_iinc (pc := 135) [(3, .int v135), (0, .ref a0), (1, .int x1), (4, .int p53_4)] hG dX12_laysSmooth_135 2 rfl e135 (by decide) rfl ?_
                  refine q_goto (pc := 138) 45 hG dX12_laysSmooth_138 rfl ?_
                  refine q_lv [1, 2, 0] rfl ?_
                  have r_7 := (q_subN (lo := 6) (hi := 62) e43 q_2r rl_2 (by decide)).2
                  have r_8 := q_rgt r53_4 rl_30 c57 31 (by decide)
                  exact ih45 v135 σ53 (q_r.mono h135.2 (by decide)) hS53 (by rw [show v135.toInt = p45_3.toInt - 1 from (by have o0 := iK45; have o1 := c46; have o2 := h135.1; have o3 := (q_subN (lo := 6) (hi := 62) e43 q_2r rl_2 (by decide)).1; have o4 := r_6; have o5 := q_2r; have o6 := h135.2; have o7 := r_7; have l8 := tl_2; unfold q_r at o4 o5 o6 o7; omega)]; exact q_so.next (by have q := iS53; rw [show p53_4.toInt = 31 from (by have o0 := c57; have o1 := r_8; have l2 := tl_30; unfold q_r at o1; omega)] at q; exact q)) (by have o0 := (q_subN (lo := 6) (hi := 62) e43 q_2r rl_2 (by decide)).1; have o1 := iK45; have o2 := c46; have o3 := h135.1; have o4 := r_6; have o5 := q_2r; have o6 := h135.2; have o7 := r_7; have l8 := tl_2; unfold q_r at o4 o5 o6 o7; omega) (q_measD hm45 (by have o0 := iK45; have o1 := c46; have o2 := h135.1; have o3 := (q_subN (lo := 6) (hi := 62) e43 q_2r rl_2 (by decide)).1; have o4 := r_6; have o5 := q_2r; have o6 := h135.2; have o7 := r_7; have l8 := tl_2; unfold q_r at o4 o5 o6 o7; omega) (h135.2).1)
                intro c57
                refine q_ldcw (pc := 60) hG w1047 dX12_laysSmooth_60 ?_
                refine q_istore (pc := 63) [(5, .int 1000000000), (0, .ref a0), (1, .int x1), (3, .int p45_3), (4, .int p53_4)] hG dX12_laysSmooth_63 (by decide) rfl ?_
                refine q_bipush (pc := 65) hG dX12_laysSmooth_65 kb_m30 ?_
                refine q_iload (pc := 67) hG dX12_laysSmooth_67 4 rfl ?_
                refine q_iload_n (pc := 69) hG dX12_laysSmooth_69 2 rfl ?_
                refine q_isub (pc := 70) hG dX12_laysSmooth_70 (fun v70 e70 => ?_)
                have r_9 := q_rle r53_4 rl_30 c57
                refine q_pS (pc := 71) [.int (-30), .int v70] [] hG (c_X12_max τ σ53 (-30) v70 hS53.1) my_X12_max w1003 w1002 dX12_laysSmooth_71 rfl rfl (Nat.le_of_ble_eq_true rfl) (by decide) (fun v71 p71 => ?_)
                have r_10 := (q_subN (lo := (-39)) (hi := 30) e70 r_9 rA1 (by decide)).2
                refine q_istore (pc := 74) [(6, .int v71), (5, .int 1000000000), (0, .ref a0), (1, .int x1), (3, .int p45_3), (4, .int p53_4)] hG dX12_laysSmooth_74 (by decide) rfl ?_
                have J76 : ∀ (n76 : Nat) (p76_5 : Int32) (p76_6 : Int32), (q_r p76_5 0 1000000000) → (q_r p76_6 (-30) 31) → ((p76_5.toInt = 1000000000 ∧ p76_6.toInt = v71.toInt) ∨ (q_so1 (σ q_1b) (σ53 q_3b) x1.toInt (p45_3.toInt + 1) p53_4.toInt p76_5.toInt ∧ 0 ≤ p76_5.toInt ∧ p76_5.toInt ≤ 129 * (q_2v.toInt - 1 - p45_3.toInt))) → (v71.toInt ≤ p76_6.toInt) → ((31 - p76_6.toInt).toNat < n76) → q_O X 0 0 τ σ53 76 [(0, .ref a0), (1, .int x1), (3, .int p45_3), (4, .int p53_4), (5, .int p76_5), (6, .int p76_6)] [] := by
                  intro n76
                  induction n76 with
                  | zero => intro p76_5 p76_6 r76_5 r76_6 iB76 iK76 hm76; exact absurd hm76 (Nat.not_lt_zero _)
                  | succ n76 ih76 =>
                    intro p76_5 p76_6 r76_5 r76_6 iB76 iK76 hm76
                    refine q_iload (pc := 76) hG dX12_laysSmooth_76 5 rfl ?_
                    refine q_bipush (pc := 78) hG dX12_laysSmooth_78 kb_30 ?_
                    refine q_iload (pc := 80) hG dX12_laysSmooth_80 3 rfl ?_
                    refine q_iload_n (pc := 82) hG dX12_laysSmooth_82 1 rfl ?_
                    refine q_iadd (pc := 83) hG dX12_laysSmooth_83 (fun v83 e83 => ?_)
                    refine q_pS (pc := 84) [.int 30, .int v83] [.int p76_6] hG (c_X12_min τ σ53 30 v83 hS53.1) my_X12_min w1000 w999 dX12_laysSmooth_84 rfl rfl (Nat.le_of_ble_eq_true rfl) (by decide) (fun v84 p84 => ?_)
                    have r_11 := (q_addN (lo := (-30)) (hi := 39) e83 r_9 rA1 (by decide)).2
                    refine q_icmp_gt (pc := 87) hG 112 dX12_laysSmooth_87 rfl ?_ ?_
                    · intro c87
                      have r_12 := q_minN (lo := (-30)) (hi := 30) p84.2.2 rl_30 r_11 (by decide)
                      refine q_aload_n (pc := 112) hG dX12_laysSmooth_112 0 rfl ?_
                      refine q_getV (pc := 113) (v := .ref q_3b) hG fl_X12_65 dX12_laysSmooth_113 tA0 (hS53.same tA0 rfl q_3f) ?_
                      refine q_bipush (pc := 116) hG dX12_laysSmooth_116 kb_61 ?_
                      refine q_iload_n (pc := 118) hG dX12_laysSmooth_118 2 rfl ?_
                      refine q_imul (pc := 119) hG dX12_laysSmooth_119 (fun v119 e119 => ?_)
                      have r_13 := q_zge r45_3 c46
                      refine q_iload (pc := 120) hG dX12_laysSmooth_120 3 rfl ?_
                      refine q_iadd (pc := 122) hG dX12_laysSmooth_122 (fun v122 e122 => ?_)
                      have r_14 := (q_mulN (lo := 0) (hi := 3782) e119 rl_61 r_13 (by decide)).2
                      refine q_bipush (pc := 123) hG dX12_laysSmooth_123 kb_30 ?_
                      refine q_iadd (pc := 125) hG dX12_laysSmooth_125 (fun v125 e125 => ?_)
                      have r_15 := (q_addN (lo := (-30)) (hi := 3812) e122 r_14 r_9 (by decide)).2
                      refine q_iload (pc := 126) hG dX12_laysSmooth_126 4 rfl ?_
                      have r_16 := (q_addN (lo := 0) (hi := 3842) e125 r_15 rl_30 (by decide)).2
                      refine q_iast (pc := 128) hG dX12_laysSmooth_128 hS53 ai_164 q_3T (q_ix r_16 (by decide)) r76_5 (by decide) rfl (fun s128 u128 w128 => ?_)
                      have m128 : s128 q_3b v125.toInt.toNat = .int p76_5 := by rw [u128]; exact q_up_same
                      obtain ⟨v129, e129⟩ : ∃ z : Int32, z = p53_4 + Int32.ofInt 1 := ⟨_, rfl⟩
                      have h129 := q_incN (lo := (-29)) (hi := 31) r_9 (by decide) (by decide) e129
                      refine q_iinc (pc := 129) [(4, .int v129), (0, .ref a0), (1, .int x1), (3, .int p45_3), (5, .int p76_5), (6, .int p76_6)] hG dX12_laysSmooth_129 3 rfl e129 (by decide) rfl ?_
                      refine q_goto (pc := 132) 53 hG dX12_laysSmooth_132 rfl ?_
                      refine q_lv [1, 2, 3, 0] rfl ?_
                      have r_17 := q_rgt r76_6 r_12 c87 (-29) (by decide)
                      have r_18 := (q_subN (lo := 6) (hi := 62) e43 q_2r rl_2 (by decide)).2
                      have r_19 := q_maxN (lo := (-30)) (hi := 30) p71.2.2.1 rl_m30 r_10 (by decide)
                      exact ih53 v129 s128 (q_r.mono h129.2 (by decide)) w128 (by rw [show s128 q_3b = updV (σ53 q_3b) v125.toInt.toNat (.int p76_5) from (by rw [u128]; exact q_upF), show v125.toInt = 61 * p45_3.toInt + p53_4.toInt + 30 from (by have o0 := iK45; have o1 := c46; have o2 := c57; have o3 := (q_subN (lo := (-39)) (hi := 30) e70 r_9 rA1 (by decide)).1; have o4 := p71.2.2.1; have o5 := iK76; have o6 := (q_addN (lo := (-30)) (hi := 39) e83 r_9 rA1 (by decide)).1; have o7 := p84.2.2; have o8 := c87; have o9 := (by have q := (q_mulN (lo := 0) (hi := 3782) e119 rl_61 r_13 (by decide)).1; rw [tl_61] at q; exact q); have o10 := (q_addN (lo := (-30)) (hi := 3812) e122 r_14 r_9 (by decide)).1; have o11 := (q_addN (lo := 0) (hi := 3842) e125 r_15 rl_30 (by decide)).1; have o12 := h129.1; have o13 := (q_subN (lo := 6) (hi := 62) e43 q_2r rl_2 (by decide)).1; have o14 := r_13; have o15 := r_9; have o16 := r_17; have o17 := q_2r; have o18 := r_14; have o19 := r_15; have o20 := r_16; have o21 := h129.2; have o22 := r_18; have o23 := r_10; have o24 := r_19; have o25 := r_11; have o26 := r_12; have o27 := rA1; have l28 := tl_m30; have l29 := tl_2; have l30 := tl_30; unfold q_r at o14 o15 o16 o17 o18 o19 o20 o21 o22 o23 o24 o25 o26 o27; omega), show v129.toInt = p53_4.toInt + 1 from (by have o0 := c57; have o1 := (q_subN (lo := (-39)) (hi := 30) e70 r_9 rA1 (by decide)).1; have o2 := p71.2.2.1; have o3 := iK76; have o4 := (q_addN (lo := (-30)) (hi := 39) e83 r_9 rA1 (by decide)).1; have o5 := p84.2.2; have o6 := c87; have o7 := (q_addN (lo := (-30)) (hi := 3812) e122 r_14 r_9 (by decide)).1; have o8 := (q_addN (lo := 0) (hi := 3842) e125 r_15 rl_30 (by decide)).1; have o9 := h129.1; have o10 := (by have q := (q_mulN (lo := 0) (hi := 3782) e119 rl_61 r_13 (by decide)).1; rw [tl_61] at q; exact q); have o11 := iK45; have o12 := c46; have o13 := (q_subN (lo := 6) (hi := 62) e43 q_2r rl_2 (by decide)).1; have o14 := r_13; have o15 := r_9; have o16 := r_17; have o17 := q_2r; have o18 := r_14; have o19 := r_15; have o20 := r_16; have o21 := h129.2; have o22 := r_18; have o23 := r_10; have o24 := r_19; have o25 := r_11; have o26 := r_12; have o27 := rA1; have l28 := tl_m30; have l29 := tl_2; have l30 := tl_30; unfold q_r at o14 o15 o16 o17 o18 o19 o20 o21 o22 o23 o24 o25 o26 o27; omega)]; exact iS53.put (by have o0 := (q_subN (lo := 6) (hi := 62) e43 q_2r rl_2 (by decide)).1; have o1 := iK45; have o2 := c46; have o3 := c57; have o4 := (q_subN (lo := (-39)) (hi := 30) e70 r_9 rA1 (by decide)).1; have o5 := p71.2.2.1; have o6 := iK76; have o7 := (q_addN (lo := (-30)) (hi := 39) e83 r_9 rA1 (by decide)).1; have o8 := p84.2.2; have o9 := c87; have o10 := (by have q := (q_mulN (lo := 0) (hi := 3782) e119 rl_61 r_13 (by decide)).1; rw [tl_61] at q; exact q); have o11 := (q_addN (lo := (-30)) (hi := 3812) e122 r_14 r_9 (by decide)).1; have o12 := (q_addN (lo := 0) (hi := 3842) e125 r_15 rl_30 (by decide)).1; have o13 := h129.1; have o14 := r_13; have o15 := r_9; have o16 := r_17; have o17 := q_2r; have o18 := r_14; have o19 := r_15; have o20 := r_16; have o21 := h129.2; have o22 := r_18; have o23 := r_10; have o24 := r_19; have o25 := r_11; have o26 := r_12; have o27 := rA1; have l28 := tl_m30; have l29 := tl_2; have l30 := tl_30; unfold q_r at o14 o15 o16 o17 o18 o19 o20 o21 o22 o23 o24 o25 o26 o27; omega) (fun _ => (iB76.elim (fun q => absurd q.2 (by have o0 := c57; have o1 := (q_subN (lo := (-39)) (hi := 30) e70 r_9 rA1 (by decide)).1; have o2 := p71.2.2.1; have o3 := iK76; have o4 := (q_addN (lo := (-30)) (hi := 39) e83 r_9 rA1 (by decide)).1; have o5 := p84.2.2; have o6 := c87; have o7 := (q_addN (lo := (-30)) (hi := 3812) e122 r_14 r_9 (by decide)).1; have o8 := (q_addN (lo := 0) (hi := 3842) e125 r_15 rl_30 (by decide)).1; have o9 := h129.1; have o10 := (by have q := (q_mulN (lo := 0) (hi := 3782) e119 rl_61 r_13 (by decide)).1; rw [tl_61] at q; exact q); have o11 := iK45; have o12 := c46; have o13 := (q_subN (lo := 6) (hi := 62) e43 q_2r rl_2 (by decide)).1; have o14 := r_13; have o15 := r_9; have o16 := r_17; have o17 := q_2r; have o18 := r_14; have o19 := r_15; have o20 := r_16; have o21 := h129.2; have o22 := r_18; have o23 := r_10; have o24 := r_19; have o25 := r_11; have o26 := r_12; have o27 := rA1; have l28 := tl_m30; have l29 := tl_2; have l30 := tl_30; unfold q_r at o14 o15 o16 o17 o18 o19 o20 o21 o22 o23 o24 o25 o26 o27; omega)) (fun q => q.1))) (iB76.elim (fun q => absurd q.2 (by have o0 := c57; have o1 := (q_subN (lo := (-39)) (hi := 30) e70 r_9 rA1 (by decide)).1; have o2 := p71.2.2.1; have o3 := iK76; have o4 := (q_addN (lo := (-30)) (hi := 39) e83 r_9 rA1 (by decide)).1; have o5 := p84.2.2; have o6 := c87; have o7 := (q_addN (lo := (-30)) (hi := 3812) e122 r_14 r_9 (by decide)).1; have o8 := (q_addN (lo := 0) (hi := 3842) e125 r_15 rl_30 (by decide)).1; have o9 := h129.1; have o10 := (by have q := (q_mulN (lo := 0) (hi := 3782) e119 rl_61 r_13 (by decide)).1; rw [tl_61] at q; exact q); have o11 := iK45; have o12 := c46; have o13 := (q_subN (lo := 6) (hi := 62) e43 q_2r rl_2 (by decide)).1; have o14 := r_13; have o15 := r_9; have o16 := r_17; have o17 := q_2r; have o18 := r_14; have o19 := r_15; have o20 := r_16; have o21 := h129.2; have o22 := r_18; have o23 := r_10; have o24 := r_19; have o25 := r_11; have o26 := r_12; have o27 := rA1; have l28 := tl_m30; have l29 := tl_2; have l30 := tl_30; unfold q_r at o14 o15 o16 o17 o18 o19 o20 o21 o22 o23 o24 o25 o26 o27; omega)) (fun q => q.2))) (q_measU hm53 (by have o0 := c57; have o1 := (q_subN (lo := (-39)) (hi := 30) e70 r_9 rA1 (by decide)).1; have o2 := p71.2.2.1; have o3 := iK76; have o4 := (q_addN (lo := (-30)) (hi := 39) e83 r_9 rA1 (by decide)).1; have o5 := p84.2.2; have o6 := c87; have o7 := (q_addN (lo := (-30)) (hi := 3812) e122 r_14 r_9 (by decide)).1; have o8 := (q_addN (lo := 0) (hi := 3842) e125 r_15 rl_30 (by decide)).1; have o9 := h129.1; have o10 := (by have q := (q_mulN (lo := 0) (hi := 3782) e119 rl_61 r_13 (by decide)).1; rw [tl_61] at q; exact q); have o11 := iK45; have o12 := c46; have o13 := (q_subN (lo := 6) (hi := 62) e43 q_2r rl_2 (by decide)).1; have o14 := r_13; have o15 := r_9; have o16 := r_17; have o17 := q_2r; have o18 := r_14; have o19 := r_15; have o20 := r_16; have o21 := h129.2; have o22 := r_18; have o23 := r_10; have o24 := r_19; have o25 := r_11; have o26 := r_12; have o27 := rA1; have l28 := tl_m30; have l29 := tl_2; have l30 := tl_30; unfold q_r at o14 o15 o16 o17 o18 o19 o20 o21 o22 o23 o24 o25 o26 o27; omega) (h129.2).2)
                    intro c87
                    have r_20 := q_minN (lo := (-30)) (hi := 30) p84.2.2 rl_30 r_11 (by decide)
                    refine q_iload (pc := 90) hG dX12_laysSmooth_90 4 rfl ?_
                    refine q_aload_n (pc := 92) hG dX12_laysSmooth_92 0 rfl ?_
                    refine q_iload_n (pc := 93) hG dX12_laysSmooth_93 2 rfl ?_
                    refine q_iconst (pc := 94) hG dX12_laysSmooth_94 ki_1 ?_
                    refine q_iadd (pc := 95) hG dX12_laysSmooth_95 (fun v95 e95 => ?_)
                    have r_21 := q_zge r45_3 c46
                    refine q_iload (pc := 96) hG dX12_laysSmooth_96 5 rfl ?_
                    have r_22 := (q_addN (lo := 1) (hi := 63) e95 r_21 rl_1 (by decide)).2
                    have r_23 := q_rle r76_6 r_20 c87
                    refine q_pV (pc := 98) [.int v95, .int p76_6] [.int p76_5] hG (c_X12_offBy τ σ53 a0 v95 p76_6 hS53.1 tA0 (q_r.mono r_22 (by decide)) r_23) my_X12_offBy mv_X12_offBy w1048 dX12_laysSmooth_98 tA0 (by decide) rfl rfl (Nat.le_of_ble_eq_true rfl) (by decide) (fun v98 p98 => ?_)
                    have ev98 := (p98.2 q_1b q_3b (hS53.same tA0 rfl q_1f) (hS53.same tA0 rfl q_3f))
                    rw [((funext fun j => hS53.2.arr q_1T (by decide) rfl) : σ53 q_1b = σ q_1b)] at ev98
                    have r_24 := (q_subN (lo := 6) (hi := 62) e43 q_2r rl_2 (by decide)).2
                    have ee95 : v95.toInt = p45_3.toInt + 1 := (by have o0 := iK45; have o1 := c46; have o2 := (q_addN (lo := 1) (hi := 63) e95 r_21 rl_1 (by decide)).1; have o3 := (q_subN (lo := 6) (hi := 62) e43 q_2r rl_2 (by decide)).1; have o4 := r_21; have o5 := q_2r; have o6 := r_24; have o7 := r_22; have l8 := tl_1; have l9 := tl_2; unfold q_r at o4 o5 o6 o7; omega)
                    have r_25 := q_maxN (lo := (-30)) (hi := 30) p71.2.2.1 rl_m30 r_10 (by decide)
                    have q98 := iS53 v95.toInt p76_6.toInt (Or.inl (by have o0 := iK45; have o1 := c46; have o2 := (q_addN (lo := 1) (hi := 63) e95 r_21 rl_1 (by decide)).1; have o3 := (q_subN (lo := 6) (hi := 62) e43 q_2r rl_2 (by decide)).1; have o4 := r_21; have o5 := q_2r; have o6 := r_24; have o7 := r_22; have l8 := tl_1; have l9 := tl_2; unfold q_r at o4 o5 o6 o7; omega)) (by have o0 := (q_subN (lo := 6) (hi := 62) e43 q_2r rl_2 (by decide)).1; have o1 := iK45; have o2 := c46; have o3 := (q_addN (lo := 1) (hi := 63) e95 r_21 rl_1 (by decide)).1; have o4 := r_21; have o5 := q_2r; have o6 := r_24; have o7 := r_22; have l8 := tl_1; have l9 := tl_2; unfold q_r at o4 o5 o6 o7; omega) (by have o0 := iK76; have o1 := c87; have o2 := p71.2.2.1; have o3 := p84.2.2; have o4 := (q_subN (lo := (-39)) (hi := 30) e70 r_9 rA1 (by decide)).1; have o5 := (q_addN (lo := (-30)) (hi := 39) e83 r_9 rA1 (by decide)).1; have o6 := c57; have o7 := r_9; have o8 := r_23; have o9 := r_10; have o10 := r_25; have o11 := r_11; have o12 := r_20; have o13 := rA1; have l14 := tl_m30; have l15 := tl_30; unfold q_r at o7 o8 o9 o10 o11 o12 o13; omega) (by have o0 := iK76; have o1 := c87; have o2 := p71.2.2.1; have o3 := p84.2.2; have o4 := (q_subN (lo := (-39)) (hi := 30) e70 r_9 rA1 (by decide)).1; have o5 := (q_addN (lo := (-30)) (hi := 39) e83 r_9 rA1 (by decide)).1; have o6 := c57; have o7 := r_9; have o8 := r_23; have o9 := r_10; have o10 := r_25; have o11 := r_11; have o12 := r_20; have o13 := rA1; have l14 := tl_m30; have l15 := tl_30; unfold q_r at o7 o8 o9 o10 o11 o12 o13; omega)
                    have x98 := ev98 ⟨q98.1.1, (by have o0 := (q_subN (lo := 6) (hi := 62) e43 q_2r rl_2 (by decide)).1; have o1 := iK45; have o2 := c46; have o3 := (q_addN (lo := 1) (hi := 63) e95 r_21 rl_1 (by decide)).1; have o4 := r_21; have o5 := q_2r; have o6 := r_24; have o7 := r_22; have l8 := tl_1; have l9 := tl_2; unfold q_r at o4 o5 o6 o7; have g := q98.1; omega)⟩
                    have y98 : -99 ≤ q_iv (σ q_1b) v95.toInt ∧ q_iv (σ q_1b) v95.toInt ≤ 99 := q_kerb hI q_1T (by have o0 := (q_addN (lo := 1) (hi := 63) e95 r_21 rl_1 (by decide)).1; have o1 := iK45; have o2 := c46; have o3 := (q_subN (lo := 6) (hi := 62) e43 q_2r rl_2 (by decide)).1; have o4 := r_21; have o5 := q_2r; have o6 := r_24; have o7 := r_22; have l8 := tl_1; have l9 := tl_2; unfold q_r at o4 o5 o6 o7; omega)
                    have o98 : 0 ≤ v98.toInt ∧ v98.toInt ≤ 129 * (q_2v.toInt - v95.toInt) := by rw [x98]; exact q_ob_rng (fun i' v' h1 h2 h3 h4 => iS53 i' v' (Or.inl (by omega)) h2 h3 h4) (by have o0 := (q_subN (lo := 6) (hi := 62) e43 q_2r rl_2 (by decide)).1; have o1 := iK45; have o2 := c46; have o3 := (q_addN (lo := 1) (hi := 63) e95 r_21 rl_1 (by decide)).1; have o4 := r_21; have o5 := q_2r; have o6 := r_24; have o7 := r_22; have l8 := tl_1; have l9 := tl_2; unfold q_r at o4 o5 o6 o7; omega) (by have o0 := iK76; have o1 := c87; have o2 := p71.2.2.1; have o3 := p84.2.2; have o4 := (q_subN (lo := (-39)) (hi := 30) e70 r_9 rA1 (by decide)).1; have o5 := (q_addN (lo := (-30)) (hi := 39) e83 r_9 rA1 (by decide)).1; have o6 := c57; have o7 := r_9; have o8 := r_23; have o9 := r_10; have o10 := r_25; have o11 := r_11; have o12 := r_20; have o13 := rA1; have l14 := tl_m30; have l15 := tl_30; unfold q_r at o7 o8 o9 o10 o11 o12 o13; omega) y98
                    have rr98 : q_r v98 0 9000 := ⟨o98.1, (by have o0 := (q_subN (lo := 6) (hi := 62) e43 q_2r rl_2 (by decide)).1; have o1 := iK45; have o2 := c46; have o3 := (q_addN (lo := 1) (hi := 63) e95 r_21 rl_1 (by decide)).1; have o4 := r_21; have o5 := q_2r; have o6 := r_24; have o7 := r_22; have l8 := tl_1; have l9 := tl_2; unfold q_r at o4 o5 o6 o7; have g := o98; omega)⟩
                    refine q_pS (pc := 101) [.int p76_5, .int v98] [] hG (c_X12_min τ σ53 p76_5 v98 hS53.1) my_X12_min w1000 w999 dX12_laysSmooth_101 rfl rfl (Nat.le_of_ble_eq_true rfl) (by decide) (fun v101 p101 => ?_)
                    have m101 := p101.2.2
                    have r_26 := q_minN (lo := 0) (hi := 9000) p101.2.2 r76_5 rr98 (by decide)
                    have n106 := q_so1.mn (y := v98) (w := p76_6.toInt) (i := p45_3.toInt + 1) (iB76.elim (fun q => Or.inl ⟨q.1, (by have o0 := (q_subN (lo := 6) (hi := 62) e43 q_2r rl_2 (by decide)).1; have o1 := iK45; have o2 := c46; have o3 := (q_addN (lo := 1) (hi := 63) e95 r_21 rl_1 (by decide)).1; have o4 := o98; have o5 := p101.2.2; have o6 := r_21; have o7 := r76_5; have o8 := q_2r; have o9 := r_26; have o10 := r_24; have o11 := r_22; have o12 := rr98; have l13 := tl_1; have l14 := tl_2; unfold q_r at o6 o7 o8 o9 o10 o11 o12; omega)⟩) (fun q => Or.inr q.1)) (show p76_5.toInt = _ from rfl) ⟨(by have o0 := iK76; have o1 := c87; have o2 := p71.2.2.1; have o3 := p84.2.2; have o4 := (q_subN (lo := (-39)) (hi := 30) e70 r_9 rA1 (by decide)).1; have o5 := (q_addN (lo := (-30)) (hi := 39) e83 r_9 rA1 (by decide)).1; have o6 := c57; have o7 := r_9; have o8 := r_23; have o9 := r_10; have o10 := r_25; have o11 := r_11; have o12 := r_20; have o13 := rA1; have l14 := tl_m30; have l15 := tl_30; unfold q_r at o7 o8 o9 o10 o11 o12 o13; omega), (by have o0 := c57; have o1 := (q_subN (lo := (-39)) (hi := 30) e70 r_9 rA1 (by decide)).1; have o2 := p71.2.2.1; have o3 := iK76; have o4 := (q_addN (lo := (-30)) (hi := 39) e83 r_9 rA1 (by decide)).1; have o5 := p84.2.2; have o6 := c87; have o7 := r_9; have o8 := r_23; have o9 := r_10; have o10 := r_25; have o11 := r_11; have o12 := r_20; have o13 := rA1; have l14 := tl_m30; have l15 := tl_30; unfold q_r at o7 o8 o9 o10 o11 o12 o13; omega)⟩ (x98.trans (by rw [ee95])) m101
                    refine q_istore (pc := 104) [(5, .int v101), (0, .ref a0), (1, .int x1), (3, .int p45_3), (4, .int p53_4), (6, .int p76_6)] hG dX12_laysSmooth_104 (by decide) rfl ?_
                    obtain ⟨v106, e106⟩ : ∃ z : Int32, z = p76_6 + Int32.ofInt 1 := ⟨_, rfl⟩
                    have h106 := q_incN (lo := (-29)) (hi := 31) r_23 (by decide) (by decide) e106
                    refine q_iinc (pc := 106) [(6, .int v106), (5, .int v101), (0, .ref a0), (1, .int x1), (3, .int p45_3), (4, .int p53_4)] hG dX12_laysSmooth_106 5 rfl e106 (by decide) rfl ?_
                    refine q_goto (pc := 109) 76 hG dX12_laysSmooth_109 rfl ?_
                    refine q_lv [2, 3, 4, 5, 1, 0] rfl ?_
                    exact ih76 v101 v106 (q_r.mono r_26 (by decide)) (q_r.mono h106.2 (by decide)) (Or.inr ⟨n106, (by have o0 := o98; have o1 := p101.2.2; have o2 := (q_subN (lo := 6) (hi := 62) e43 q_2r rl_2 (by decide)).1; have o3 := iK45; have o4 := c46; have o5 := (q_addN (lo := 1) (hi := 63) e95 r_21 rl_1 (by decide)).1; have o6 := r_21; have o7 := r76_5; have o8 := q_2r; have o9 := r_26; have o10 := r_24; have o11 := r_22; have o12 := rr98; have l13 := tl_1; have l14 := tl_2; have o15 := o98; have o16 := m101; unfold q_r at o6 o7 o8 o9 o10 o11 o12; omega), (by have o0 := o98; have o1 := p101.2.2; have o2 := (q_subN (lo := 6) (hi := 62) e43 q_2r rl_2 (by decide)).1; have o3 := iK45; have o4 := c46; have o5 := (q_addN (lo := 1) (hi := 63) e95 r_21 rl_1 (by decide)).1; have o6 := r_21; have o7 := r76_5; have o8 := q_2r; have o9 := r_26; have o10 := r_24; have o11 := r_22; have o12 := rr98; have l13 := tl_1; have l14 := tl_2; have o15 := o98; have o16 := m101; unfold q_r at o6 o7 o8 o9 o10 o11 o12; omega)⟩) (by have o0 := p71.2.2.1; have o1 := iK76; have o2 := c87; have o3 := h106.1; have o4 := (q_subN (lo := (-39)) (hi := 30) e70 r_9 rA1 (by decide)).1; have o5 := (q_addN (lo := (-30)) (hi := 39) e83 r_9 rA1 (by decide)).1; have o6 := p84.2.2; have o7 := c57; have o8 := r_9; have o9 := r_23; have o10 := h106.2; have o11 := r_10; have o12 := r_25; have o13 := r_11; have o14 := r_20; have o15 := rA1; have l16 := tl_m30; have l17 := tl_30; unfold q_r at o8 o9 o10 o11 o12 o13 o14 o15; omega) (q_measU hm76 (by have o0 := iK76; have o1 := c87; have o2 := h106.1; have o3 := p71.2.2.1; have o4 := p84.2.2; have o5 := (q_subN (lo := (-39)) (hi := 30) e70 r_9 rA1 (by decide)).1; have o6 := (q_addN (lo := (-30)) (hi := 39) e83 r_9 rA1 (by decide)).1; have o7 := c57; have o8 := r_9; have o9 := r_23; have o10 := h106.2; have o11 := r_10; have o12 := r_25; have o13 := r_11; have o14 := r_20; have o15 := rA1; have l16 := tl_m30; have l17 := tl_30; unfold q_r at o8 o9 o10 o11 o12 o13 o14 o15; omega) (h106.2).2)
                refine q_lv [2, 3, 4, 5, 1, 0] rfl ?_
                have r_27 := q_maxN (lo := (-30)) (hi := 30) p71.2.2.1 rl_m30 r_10 (by decide)
                exact J76 _ 1000000000 v71 (q_r.mono rl_1000000000 (by decide)) (q_r.mono r_27 (by decide)) (Or.inl ⟨(by have l0 := tl_1000000000; omega), rfl⟩) (by have o0 := p71.2.2.1; have o1 := (q_subN (lo := (-39)) (hi := 30) e70 r_9 rA1 (by decide)).1; have o2 := c57; have o3 := r_9; have o4 := r_10; have o5 := r_27; have o6 := rA1; have l7 := tl_m30; have l8 := tl_30; unfold q_r at o3 o4 o5 o6; omega) (Nat.lt_succ_self _)
            refine q_lv [1, 2, 3, 0] rfl ?_
            exact J53 _ (-30) σ45 (q_r.mono rl_m30 (by decide)) hS45 (by rw [tl_m30]; exact iS45) (Nat.lt_succ_self _)
        refine q_lv [1, 2, 0] rfl ?_
        have r_28 := (q_subN (lo := 6) (hi := 62) e43 q_2r rl_2 (by decide)).2
        have r_29 := q_rgt r12_3 rl_30 c15 31 (by decide)
        exact J45 _ v43 σ12 (q_r.mono r_28 (by decide)) hS12 (by rw [show v43.toInt = q_2v.toInt - 1 - 1 from (by have o0 := (q_subN (lo := 6) (hi := 62) e43 q_2r rl_2 (by decide)).1; have o1 := q_2r; have o2 := r_28; have l3 := tl_2; unfold q_r at o1 o2; omega)]; exact q_so.next (by have q := iS12; rw [show p12_3.toInt = 31 from (by have o0 := c15; have o1 := r_29; have l2 := tl_30; unfold q_r at o1; omega)] at q; exact q)) (by have o0 := (q_subN (lo := 6) (hi := 62) e43 q_2r rl_2 (by decide)).1; have o1 := q_2r; have o2 := r_28; have l3 := tl_2; unfold q_r at o1 o2; omega) (Nat.lt_succ_self _)
      intro c15
      refine q_aload_n (pc := 18) hG dX12_laysSmooth_18 0 rfl ?_
      refine q_getV (pc := 19) (v := .ref q_3b) hG fl_X12_65 dX12_laysSmooth_19 tA0 (hS12.same tA0 rfl q_3f) ?_
      refine q_bipush (pc := 22) hG dX12_laysSmooth_22 kb_61 ?_
      refine q_iload_n (pc := 24) hG dX12_laysSmooth_24 2 rfl ?_
      refine q_iconst (pc := 25) hG dX12_laysSmooth_25 ki_1 ?_
      refine q_isub (pc := 26) hG dX12_laysSmooth_26 (fun v26 e26 => ?_)
      refine q_imul (pc := 27) hG dX12_laysSmooth_27 (fun v27 e27 => ?_)
      have r_30 := (q_subN (lo := 7) (hi := 63) e26 q_2r rl_1 (by decide)).2
      refine q_iload_n (pc := 28) hG dX12_laysSmooth_28 3 rfl ?_
      refine q_iadd (pc := 29) hG dX12_laysSmooth_29 (fun v29 e29 => ?_)
      have r_31 := (q_mulN (lo := 427) (hi := 3843) e27 rl_61 r_30 (by decide)).2
      have r_32 := q_rle r12_3 rl_30 c15
      refine q_bipush (pc := 30) hG dX12_laysSmooth_30 kb_30 ?_
      refine q_iadd (pc := 32) hG dX12_laysSmooth_32 (fun v32 e32 => ?_)
      have r_33 := (q_addN (lo := 397) (hi := 3873) e29 r_31 r_32 (by decide)).2
      refine q_iconst (pc := 33) hG dX12_laysSmooth_33 ki_0 ?_
      have r_34 := (q_addN (lo := 427) (hi := 3903) e32 r_33 rl_30 (by decide)).2
      refine q_iast (pc := 34) hG dX12_laysSmooth_34 hS12 ai_164 q_3T (q_ix r_34 (by decide)) rl_0 (by decide) rfl (fun s34 u34 w34 => ?_)
      have m34 : s34 q_3b v32.toInt.toNat = .int 0 := by rw [u34]; exact q_up_same
      obtain ⟨v35, e35⟩ : ∃ z : Int32, z = p12_3 + Int32.ofInt 1 := ⟨_, rfl⟩
      have h35 := q_incN (lo := (-29)) (hi := 31) r_32 (by decide) (by decide) e35
      refine q_iinc (pc := 35) [(3, .int v35), (0, .ref a0), (1, .int x1), (2, .int q_2v)] hG dX12_laysSmooth_35 3 rfl e35 (by decide) rfl ?_
      refine q_goto (pc := 38) 12 hG dX12_laysSmooth_38 rfl ?_
      refine q_lv [1, 2, 3, 0] rfl ?_
      exact ih12 v35 s34 (q_r.mono h35.2 (by decide)) w34 (by rw [show s34 q_3b = updV (σ12 q_3b) v32.toInt.toNat (.int 0) from (by rw [u34]; exact q_upF), show v32.toInt = 61 * (q_2v.toInt - 1) + p12_3.toInt + 30 from (by have o0 := c15; have o1 := (q_subN (lo := 7) (hi := 63) e26 q_2r rl_1 (by decide)).1; have o2 := (by have q := (q_mulN (lo := 427) (hi := 3843) e27 rl_61 r_30 (by decide)).1; rw [tl_61] at q; exact q); have o3 := (q_addN (lo := 397) (hi := 3873) e29 r_31 r_32 (by decide)).1; have o4 := (q_addN (lo := 427) (hi := 3903) e32 r_33 rl_30 (by decide)).1; have o5 := h35.1; have o6 := r_32; have o7 := q_2r; have o8 := r_30; have o9 := r_31; have o10 := r_33; have o11 := r_34; have o12 := h35.2; have l13 := tl_1; have l14 := tl_30; unfold q_r at o6 o7 o8 o9 o10 o11 o12; omega), show v35.toInt = p12_3.toInt + 1 from (by have o0 := c15; have o1 := (q_addN (lo := 397) (hi := 3873) e29 r_31 r_32 (by decide)).1; have o2 := (q_addN (lo := 427) (hi := 3903) e32 r_33 rl_30 (by decide)).1; have o3 := h35.1; have o4 := (by have q := (q_mulN (lo := 427) (hi := 3843) e27 rl_61 r_30 (by decide)).1; rw [tl_61] at q; exact q); have o5 := (q_subN (lo := 7) (hi := 63) e26 q_2r rl_1 (by decide)).1; have o6 := r_32; have o7 := q_2r; have o8 := r_30; have o9 := r_31; have o10 := r_33; have o11 := r_34; have o12 := h35.2; have l13 := tl_1; have l14 := tl_30; unfold q_r at o6 o7 o8 o9 o10 o11 o12; omega)]; exact iS12.put (by have o0 := c15; have o1 := (q_subN (lo := 7) (hi := 63) e26 q_2r rl_1 (by decide)).1; have o2 := (by have q := (q_mulN (lo := 427) (hi := 3843) e27 rl_61 r_30 (by decide)).1; rw [tl_61] at q; exact q); have o3 := (q_addN (lo := 397) (hi := 3873) e29 r_31 r_32 (by decide)).1; have o4 := (q_addN (lo := 427) (hi := 3903) e32 r_33 rl_30 (by decide)).1; have o5 := h35.1; have o6 := r_32; have o7 := q_2r; have o8 := r_30; have o9 := r_31; have o10 := r_33; have o11 := r_34; have o12 := h35.2; have l13 := tl_1; have l14 := tl_30; unfold q_r at o6 o7 o8 o9 o10 o11 o12; omega) (fun q => absurd q (by omega)) (by rw [tl_0]; omega)) (q_measU hm12 (by have o0 := c15; have o1 := (q_addN (lo := 397) (hi := 3873) e29 r_31 r_32 (by decide)).1; have o2 := (q_addN (lo := 427) (hi := 3903) e32 r_33 rl_30 (by decide)).1; have o3 := h35.1; have o4 := (by have q := (q_mulN (lo := 427) (hi := 3843) e27 rl_61 r_30 (by decide)).1; rw [tl_61] at q; exact q); have o5 := (q_subN (lo := 7) (hi := 63) e26 q_2r rl_1 (by decide)).1; have o6 := r_32; have o7 := q_2r; have o8 := r_30; have o9 := r_31; have o10 := r_33; have o11 := r_34; have o12 := h35.2; have l13 := tl_1; have l14 := tl_30; unfold q_r at o6 o7 o8 o9 o10 o11 o12; omega) (h35.2).2)
  refine q_lv [2, 3, 1, 0] rfl ?_
  exact J12 _ (-30) σ (q_r.mono rl_m30 (by decide)) hS0 (by rw [tl_m30]; exact q_so.new) (Nat.lt_succ_self _)
theorem dX12_smooth_0 : decode cX12_smooth 0 = .ok (.iload_n 1, 1) := by decide +kernel
theorem dX12_smooth_1 : decode cX12_smooth 1 = .ok (.iconst 0, 1) := by decide +kernel
theorem dX12_smooth_2 : decode cX12_smooth 2 = .ok (.bipush 9, 2) := by decide +kernel
theorem dX12_smooth_4 : decode cX12_smooth 4 = .ok (.invokestatic 102, 3) := by decide +kernel
theorem dX12_smooth_7 : decode cX12_smooth 7 = .ok (.ifCond .eq 17, 3) := by decide +kernel
theorem dX12_smooth_10 : decode cX12_smooth 10 = .ok (.iload_n 2, 1) := by decide +kernel
theorem dX12_smooth_11 : decode cX12_smooth 11 = .ok (.bipush 100, 2) := by decide +kernel
theorem dX12_smooth_13 : decode cX12_smooth 13 = .ok (.if_icmp .eq 13, 3) := by decide +kernel
theorem dX12_smooth_16 : decode cX12_smooth 16 = .ok (.aload_n 0, 1) := by decide +kernel
theorem dX12_smooth_17 : decode cX12_smooth 17 = .ok (.iload_n 2, 1) := by decide +kernel
theorem dX12_smooth_18 : decode cX12_smooth 18 = .ok (.invokevirtual 110, 3) := by decide +kernel
theorem dX12_smooth_21 : decode cX12_smooth 21 = .ok (.ifCond .ne 5, 3) := by decide +kernel
theorem dX12_smooth_24 : decode cX12_smooth 24 = .ok (.iconst (-1), 1) := by decide +kernel
theorem dX12_smooth_25 : decode cX12_smooth 25 = .ok (.ireturn, 1) := by decide +kernel
theorem dX12_smooth_26 : decode cX12_smooth 26 = .ok (.aload_n 0, 1) := by decide +kernel
theorem dX12_smooth_27 : decode cX12_smooth 27 = .ok (.iload_n 1, 1) := by decide +kernel
theorem dX12_smooth_28 : decode cX12_smooth 28 = .ok (.invokevirtual 322, 3) := by decide +kernel
theorem dX12_smooth_31 : decode cX12_smooth 31 = .ok (.bipush (-30), 2) := by decide +kernel
theorem dX12_smooth_33 : decode cX12_smooth 33 = .ok (.istore_n 3, 1) := by decide +kernel
theorem dX12_smooth_34 : decode cX12_smooth 34 = .ok (.bipush 30, 2) := by decide +kernel
theorem dX12_smooth_36 : decode cX12_smooth 36 = .ok (.istore 4, 2) := by decide +kernel
theorem dX12_smooth_38 : decode cX12_smooth 38 = .ok (.ldc_w 318, 3) := by decide +kernel
theorem dX12_smooth_41 : decode cX12_smooth 41 = .ok (.istore 5, 2) := by decide +kernel
theorem dX12_smooth_43 : decode cX12_smooth 43 = .ok (.iload_n 3, 1) := by decide +kernel
theorem dX12_smooth_44 : decode cX12_smooth 44 = .ok (.istore 6, 2) := by decide +kernel
theorem dX12_smooth_46 : decode cX12_smooth 46 = .ok (.iload 6, 2) := by decide +kernel
theorem dX12_smooth_48 : decode cX12_smooth 48 = .ok (.iload 4, 2) := by decide +kernel
theorem dX12_smooth_50 : decode cX12_smooth 50 = .ok (.if_icmp .gt 23, 3) := by decide +kernel
theorem dX12_smooth_53 : decode cX12_smooth 53 = .ok (.iload 5, 2) := by decide +kernel
theorem dX12_smooth_55 : decode cX12_smooth 55 = .ok (.aload_n 0, 1) := by decide +kernel
theorem dX12_smooth_56 : decode cX12_smooth 56 = .ok (.iconst 0, 1) := by decide +kernel
theorem dX12_smooth_57 : decode cX12_smooth 57 = .ok (.iload 6, 2) := by decide +kernel
theorem dX12_smooth_59 : decode cX12_smooth 59 = .ok (.invokevirtual 319, 3) := by decide +kernel
theorem dX12_smooth_62 : decode cX12_smooth 62 = .ok (.invokestatic 257, 3) := by decide +kernel
theorem dX12_smooth_65 : decode cX12_smooth 65 = .ok (.istore 5, 2) := by decide +kernel
theorem dX12_smooth_67 : decode cX12_smooth 67 = .ok (.iinc 6 1, 3) := by decide +kernel
theorem dX12_smooth_70 : decode cX12_smooth 70 = .ok (.goto (-24), 3) := by decide +kernel
theorem dX12_smooth_73 : decode cX12_smooth 73 = .ok (.iload_n 2, 1) := by decide +kernel
theorem dX12_smooth_74 : decode cX12_smooth 74 = .ok (.bipush 100, 2) := by decide +kernel
theorem dX12_smooth_76 : decode cX12_smooth 76 = .ok (.if_icmp .ne 6, 3) := by decide +kernel
theorem dX12_smooth_79 : decode cX12_smooth 79 = .ok (.iload 5, 2) := by decide +kernel
theorem dX12_smooth_81 : decode cX12_smooth 81 = .ok (.ireturn, 1) := by decide +kernel
theorem dX12_smooth_82 : decode cX12_smooth 82 = .ok (.iload 5, 2) := by decide +kernel
theorem dX12_smooth_84 : decode cX12_smooth 84 = .ok (.istore 6, 2) := by decide +kernel
theorem dX12_smooth_86 : decode cX12_smooth 86 = .ok (.iconst 0, 1) := by decide +kernel
theorem dX12_smooth_87 : decode cX12_smooth 87 = .ok (.istore 7, 2) := by decide +kernel
theorem dX12_smooth_89 : decode cX12_smooth 89 = .ok (.iconst 0, 1) := by decide +kernel
theorem dX12_smooth_90 : decode cX12_smooth 90 = .ok (.istore 8, 2) := by decide +kernel
theorem dX12_smooth_92 : decode cX12_smooth 92 = .ok (.iload 8, 2) := by decide +kernel
theorem dX12_smooth_94 : decode cX12_smooth 94 = .ok (.iload_n 2, 1) := by decide +kernel
theorem dX12_smooth_95 : decode cX12_smooth 95 = .ok (.if_icmp .gt 64, 3) := by decide +kernel
theorem dX12_smooth_98 : decode cX12_smooth 98 = .ok (.iload_n 3, 1) := by decide +kernel
theorem dX12_smooth_99 : decode cX12_smooth 99 = .ok (.istore 7, 2) := by decide +kernel
theorem dX12_smooth_101 : decode cX12_smooth 101 = .ok (.aload_n 0, 1) := by decide +kernel
theorem dX12_smooth_102 : decode cX12_smooth 102 = .ok (.iload 8, 2) := by decide +kernel
theorem dX12_smooth_104 : decode cX12_smooth 104 = .ok (.iload 7, 2) := by decide +kernel
theorem dX12_smooth_106 : decode cX12_smooth 106 = .ok (.invokevirtual 319, 3) := by decide +kernel
theorem dX12_smooth_109 : decode cX12_smooth 109 = .ok (.iload 6, 2) := by decide +kernel
theorem dX12_smooth_111 : decode cX12_smooth 111 = .ok (.if_icmp .eq 12, 3) := by decide +kernel
theorem dX12_smooth_114 : decode cX12_smooth 114 = .ok (.iload 7, 2) := by decide +kernel
theorem dX12_smooth_116 : decode cX12_smooth 116 = .ok (.iconst 1, 1) := by decide +kernel
theorem dX12_smooth_117 : decode cX12_smooth 117 = .ok (.iadd, 1) := by decide +kernel
theorem dX12_smooth_118 : decode cX12_smooth 118 = .ok (.istore 7, 2) := by decide +kernel
theorem dX12_smooth_120 : decode cX12_smooth 120 = .ok (.goto (-19), 3) := by decide +kernel
theorem dX12_smooth_123 : decode cX12_smooth 123 = .ok (.iload 6, 2) := by decide +kernel
theorem dX12_smooth_125 : decode cX12_smooth 125 = .ok (.iload 7, 2) := by decide +kernel
theorem dX12_smooth_127 : decode cX12_smooth 127 = .ok (.aload_n 0, 1) := by decide +kernel
theorem dX12_smooth_128 : decode cX12_smooth 128 = .ok (.getfield 7, 3) := by decide +kernel
theorem dX12_smooth_131 : decode cX12_smooth 131 = .ok (.iconst 0, 1) := by decide +kernel
theorem dX12_smooth_132 : decode cX12_smooth 132 = .ok (.iload 8, 2) := by decide +kernel
theorem dX12_smooth_134 : decode cX12_smooth 134 = .ok (.iadd, 1) := by decide +kernel
theorem dX12_smooth_135 : decode cX12_smooth 135 = .ok (.iaload, 1) := by decide +kernel
theorem dX12_smooth_136 : decode cX12_smooth 136 = .ok (.isub, 1) := by decide +kernel
theorem dX12_smooth_137 : decode cX12_smooth 137 = .ok (.invokestatic 218, 3) := by decide +kernel
theorem dX12_smooth_140 : decode cX12_smooth 140 = .ok (.isub, 1) := by decide +kernel
theorem dX12_smooth_141 : decode cX12_smooth 141 = .ok (.istore 6, 2) := by decide +kernel
theorem dX12_smooth_143 : decode cX12_smooth 143 = .ok (.bipush (-30), 2) := by decide +kernel
theorem dX12_smooth_145 : decode cX12_smooth 145 = .ok (.iload 7, 2) := by decide +kernel
theorem dX12_smooth_147 : decode cX12_smooth 147 = .ok (.iload_n 1, 1) := by decide +kernel
theorem dX12_smooth_148 : decode cX12_smooth 148 = .ok (.isub, 1) := by decide +kernel
theorem dX12_smooth_149 : decode cX12_smooth 149 = .ok (.invokestatic 260, 3) := by decide +kernel
theorem dX12_smooth_152 : decode cX12_smooth 152 = .ok (.istore_n 3, 1) := by decide +kernel
theorem dX12_smooth_153 : decode cX12_smooth 153 = .ok (.iinc 8 1, 3) := by decide +kernel
theorem dX12_smooth_156 : decode cX12_smooth 156 = .ok (.goto (-64), 3) := by decide +kernel
theorem dX12_smooth_159 : decode cX12_smooth 159 = .ok (.iload 7, 2) := by decide +kernel
theorem dX12_smooth_161 : decode cX12_smooth 161 = .ok (.bipush 100, 2) := by decide +kernel
theorem dX12_smooth_163 : decode cX12_smooth 163 = .ok (.iadd, 1) := by decide +kernel
theorem dX12_smooth_164 : decode cX12_smooth 164 = .ok (.ireturn, 1) := by decide +kernel
def md_X12_smooth : List (Nat × Nat) := [(164, 0)]
set_option maxRecDepth 100000 in
set_option maxHeartbeats 4000000 in
theorem c_X12_smooth {l : Launch} {D : q_D} (τ : q_T) (σ : q_V) (a0 : Nat) (x1 : Int32) (x2 : Int32) (hI : q_I τ σ) (tA0 : τ a0 = some (10, 1)) : q_Ci l D yX12_smooth cX12_smooth 9 (some .int) 3 68 τ σ [.ref a0, .int x1, .int x2] (fun r σ1 => q_S md_X12_smooth τ σ σ1 ∧ (q_r r (-1) 1000000000)) := by
  refine q_meti rfl (Nat.le_of_ble_eq_true rfl) (fun X hG hE => ?_)
  show q_O X 0 0 τ σ 0 [(0, .ref a0), (1, .int x1), (2, .int x2)] []
  have hS0 : q_S md_X12_smooth τ σ σ := q_S.rf hI
  obtain ⟨q_1b, q_1f, q_1T⟩ := (hI a0 10 1 tA0 0 (by decide)).ref (k := 100) (n := 549) rfl
  obtain ⟨q_2v, q_2f, q_2r⟩ := (hI q_1b 100 549 q_1T 512 (by decide)).int (lo := 8) (hi := 64) rfl
  have q_2g : σ q_1b (512 : Int32).toInt.toNat = .int q_2v := q_2f
  obtain ⟨q_3b, q_3f, q_3T⟩ := (hI a0 10 1 tA0 30 (by decide)).ref (k := 164) (n := 3904) rfl
  refine q_iload_n (pc := 0) hG dX12_smooth_0 1 rfl ?_
  refine q_iconst (pc := 1) hG dX12_smooth_1 ki_0 ?_
  refine q_bipush (pc := 2) hG dX12_smooth_2 kb_9 ?_
  refine q_pS (pc := 4) [.int x1, .int 0, .int 9] [] hG (c_X12_in τ σ x1 0 9 hI) my_X12_in w778 w777 dX12_smooth_4 rfl rfl (Nat.le_of_ble_eq_true rfl) (by decide) (fun v4 p4 => ?_)
  refine q_if_eq (pc := 7) hG 24 dX12_smooth_7 rfl ?_ ?_
  · intro c7
    refine q_iconst (pc := 24) hG dX12_smooth_24 ki_m1 ?_
    exact q_irt hG hE dX12_smooth_25 ⟨hS0, (q_r.mono rl_m1 (by decide))⟩
  intro c7
  have g_4 := p4.2.2.mp (q_one p4.1 c7)
  have r_5 := q_rge (q_r_any x1) rl_0 g_4.1
  refine q_iload_n (pc := 10) hG dX12_smooth_10 2 rfl ?_
  refine q_bipush (pc := 11) hG dX12_smooth_11 kb_100 ?_
  have J26 : (x2.toInt = 100 ∨ (0 ≤ x2.toInt ∧ x2.toInt < q_2v.toInt)) → q_O X 0 0 τ σ 26 [(0, .ref a0), (1, .int x1), (2, .int x2)] [] := by
    intro iA26
    refine q_aload_n (pc := 26) hG dX12_smooth_26 0 rfl ?_
    refine q_iload_n (pc := 27) hG dX12_smooth_27 1 rfl ?_
    have r_6 := q_rle r_5 rl_9 g_4.2
    refine q_cVv (pc := 28) [.int x1] [] hG (c_X12_laysSmooth τ σ a0 x1 hI tA0 r_6) my_X12_laysSmooth mv_X12_laysSmooth w1044 dX12_smooth_28 tA0 (by decide) rfl rfl (Nat.le_of_ble_eq_true rfl) (by decide) (fun s28 p28 => ?_)
    have w28 := hS0.trans p28.1 rfl
    have S28 := p28.2 q_1b q_3b q_2v q_1f q_3f (show σ _ 512 = _ from q_2g)
    refine q_bipush (pc := 31) hG dX12_smooth_31 kb_m30 ?_
    refine q_istore_n (pc := 33) [(3, .int (-30)), (0, .ref a0), (1, .int x1), (2, .int x2)] hG dX12_smooth_33 (by decide) rfl ?_
    refine q_bipush (pc := 34) hG dX12_smooth_34 kb_30 ?_
    refine q_istore (pc := 36) [(4, .int 30), (3, .int (-30)), (0, .ref a0), (1, .int x1), (2, .int x2)] hG dX12_smooth_36 (by decide) rfl ?_
    refine q_ldcw (pc := 38) hG w1047 dX12_smooth_38 ?_
    refine q_istore (pc := 41) [(5, .int 1000000000), (4, .int 30), (3, .int (-30)), (0, .ref a0), (1, .int x1), (2, .int x2)] hG dX12_smooth_41 (by decide) rfl ?_
    refine q_iload_n (pc := 43) hG dX12_smooth_43 2 rfl ?_
    refine q_istore (pc := 44) [(6, .int (-30)), (5, .int 1000000000), (4, .int 30), (3, .int (-30)), (0, .ref a0), (1, .int x1), (2, .int x2)] hG dX12_smooth_44 (by decide) rfl ?_
    have J46 : ∀ (n46 : Nat) (p46_5 : Int32) (p46_6 : Int32), (q_r p46_5 0 1000000000) → (q_r p46_6 (-30) 31) → ((p46_5.toInt = 1000000000 ∧ p46_6.toInt = -30) ∨ (q_so1 (σ q_1b) (s28 q_3b) 60 0 0 p46_5.toInt ∧ 0 ≤ p46_5.toInt ∧ p46_5.toInt ≤ 129 * q_2v.toInt)) → ((31 - p46_6.toInt).toNat < n46) → q_O X 0 0 τ s28 46 [(0, .ref a0), (1, .int x1), (2, .int x2), (3, .int (-30)), (4, .int 30), (5, .int p46_5), (6, .int p46_6)] [] := by
      intro n46
      induction n46 with
      | zero => intro p46_5 p46_6 r46_5 r46_6 iB46 hm46; exact absurd hm46 (Nat.not_lt_zero _)
      | succ n46 ih46 =>
        intro p46_5 p46_6 r46_5 r46_6 iB46 hm46
        refine q_iload (pc := 46) hG dX12_smooth_46 6 rfl ?_
        refine q_iload (pc := 48) hG dX12_smooth_48 4 rfl ?_
        refine q_icmp_gt (pc := 50) hG 73 dX12_smooth_50 rfl ?_ ?_
        · intro c50
          refine q_iload_n (pc := 73) hG dX12_smooth_73 2 rfl ?_
          refine q_bipush (pc := 74) hG dX12_smooth_74 kb_100 ?_
          refine q_icmp_ne (pc := 76) hG 82 dX12_smooth_76 rfl ?_ ?_
          · intro c76
            refine q_iload (pc := 82) hG dX12_smooth_82 5 rfl ?_
            have r_7 := q_rgt r46_6 rl_30 c50 31 (by decide)
            have r82 : q_r p46_5 0 9000 := iB46.elim (fun q => absurd q.2 (by have o0 := c50; have o1 := r_7; have l2 := tl_30; unfold q_r at o1; omega)) (fun q => ⟨q.2.1, Int.le_trans q.2.2 (by have o0 := iA26; have o1 := c76; have o2 := q_2r; have l3 := tl_100; unfold q_r at o2; omega)⟩)
            refine q_istore (pc := 84) [(6, .int p46_5), (0, .ref a0), (1, .int x1), (2, .int x2), (3, .int (-30)), (4, .int 30), (5, .int p46_5)] hG dX12_smooth_84 (by decide) rfl ?_
            refine q_iconst (pc := 86) hG dX12_smooth_86 ki_0 ?_
            refine q_istore (pc := 87) [(7, .int 0), (6, .int p46_5), (0, .ref a0), (1, .int x1), (2, .int x2), (3, .int (-30)), (4, .int 30), (5, .int p46_5)] hG dX12_smooth_87 (by decide) rfl ?_
            refine q_iconst (pc := 89) hG dX12_smooth_89 ki_0 ?_
            refine q_istore (pc := 90) [(8, .int 0), (7, .int 0), (6, .int p46_5), (0, .ref a0), (1, .int x1), (2, .int x2), (3, .int (-30)), (4, .int 30), (5, .int p46_5)] hG dX12_smooth_90 (by decide) rfl ?_
            have J92 : ∀ (n92 : Nat) (p92_3 : Int32) (p92_6 : Int32) (p92_7 : Int32) (p92_8 : Int32), (q_r p92_3 (-30) 30) → (q_r p92_6 0 9000) → (q_r p92_7 (-30) 30) → (q_r p92_8 0 64) → (p92_8.toInt ≤ x2.toInt → q_x (q_se (σ q_1b) (s28 q_3b) p92_8.toInt p92_3.toInt p92_6.toInt)) → ((64 - p92_8.toInt).toNat < n92) → q_O X 0 0 τ s28 92 [(0, .ref a0), (1, .int x1), (2, .int x2), (3, .int p92_3), (6, .int p92_6), (7, .int p92_7), (8, .int p92_8)] [] := by
              intro n92
              induction n92 with
              | zero => intro p92_3 p92_6 p92_7 p92_8 r92_3 r92_6 r92_7 r92_8 iE92 hm92; exact absurd hm92 (Nat.not_lt_zero _)
              | succ n92 ih92 =>
                intro p92_3 p92_6 p92_7 p92_8 r92_3 r92_6 r92_7 r92_8 iE92 hm92
                refine q_iload (pc := 92) hG dX12_smooth_92 6 rfl ?_
                refine q_iload_n (pc := 94) hG dX12_smooth_94 2 rfl ?_
                refine q_icmp_gt (pc := 95) hG 159 dX12_smooth_95 rfl ?_ ?_
                · intro c95
                  refine q_iload (pc := 159) hG dX12_smooth_159 5 rfl ?_
                  refine q_bipush (pc := 161) hG dX12_smooth_161 kb_100 ?_
                  refine q_iadd (pc := 163) hG dX12_smooth_163 (fun v163 e163 => ?_)
                  have r_8 := (q_addN (lo := 70) (hi := 130) e163 r92_7 rl_100 (by decide)).2
                  exact q_irt hG hE dX12_smooth_164 ⟨w28, (q_r.mono r_8 (by decide))⟩
                intro c95
                refine q_iload_n (pc := 98) hG dX12_smooth_98 3 rfl ?_
                have r_9 := q_rge (q_r_any x2) r92_8 c95
                obtain ⟨js, j1, j2, j3⟩ := iE92 (by have o0 := iA26; have o1 := c76; have o2 := c95; have o3 := r92_8; have o4 := q_2r; have o5 := r_9; have l6 := tl_100; unfold q_r at o3 o4 o5; omega)
                have r98 : q_r p92_8 0 63 := ⟨(by have o0 := c95; have o1 := iA26; have o2 := c76; have o3 := r92_8; have o4 := q_2r; have o5 := r_9; have l6 := tl_100; unfold q_r at o3 o4 o5; omega), (by have o0 := iA26; have o1 := c76; have o2 := c95; have o3 := r92_8; have o4 := q_2r; have o5 := r_9; have l6 := tl_100; unfold q_r at o3 o4 o5; omega)⟩
                refine q_istore (pc := 99) [(7, .int p92_3), (0, .ref a0), (1, .int x1), (2, .int x2), (3, .int p92_3), (6, .int p92_6), (8, .int p92_8)] hG dX12_smooth_99 (by decide) rfl ?_
                have J101 : ∀ (n101 : Nat) (p101_7 : Int32), (q_r p101_7 (-30) 30) → (p101_7.toInt ≤ js) → ((js - p101_7.toInt).toNat < n101) → q_O X 0 0 τ s28 101 [(0, .ref a0), (1, .int x1), (2, .int x2), (6, .int p92_6), (7, .int p101_7), (8, .int p92_8)] [] := by
                  intro n101
                  induction n101 with
                  | zero => intro p101_7 r101_7 iJ101 hm101; exact absurd hm101 (Nat.not_lt_zero _)
                  | succ n101 ih101 =>
                    intro p101_7 r101_7 iJ101 hm101
                    refine q_aload_n (pc := 101) hG dX12_smooth_101 0 rfl ?_
                    refine q_iload (pc := 102) hG dX12_smooth_102 5 rfl ?_
                    refine q_iload (pc := 104) hG dX12_smooth_104 4 rfl ?_
                    refine q_pV (pc := 106) [.int p92_8, .int p101_7] [] hG (c_X12_offBy τ s28 a0 p92_8 p101_7 w28.1 tA0 r98 r101_7) my_X12_offBy mv_X12_offBy w1048 dX12_smooth_106 tA0 (by decide) rfl rfl (Nat.le_of_ble_eq_true rfl) (by decide) (fun v106 p106 => ?_)
                    have ev106 := (p106.2 q_1b q_3b (w28.same tA0 rfl q_1f) (w28.same tA0 rfl q_3f))
                    rw [((funext fun j => w28.2.arr q_1T (by decide) rfl) : s28 q_1b = σ q_1b)] at ev106
                    have q106 := S28 p92_8.toInt p101_7.toInt (Or.inl (by have o0 := c95; have o1 := iA26; have o2 := c76; have o3 := r98; have o4 := q_2r; have o5 := r_9; have l6 := tl_100; unfold q_r at o3 o4 o5; omega)) (by have o0 := iA26; have o1 := c76; have o2 := c95; have o3 := r98; have o4 := q_2r; have o5 := r_9; have l6 := tl_100; unfold q_r at o3 o4 o5; omega) (by have o0 := iJ101; have o1 := j2; have o2 := j1; have o3 := r101_7; have o4 := r92_3; unfold q_r at o3 o4; omega) (by have o0 := iJ101; have o1 := j2; have o2 := j1; have o3 := r101_7; have o4 := r92_3; unfold q_r at o3 o4; omega)
                    have x106 := ev106 ⟨q106.1.1, (by have o0 := iA26; have o1 := c76; have o2 := c95; have o3 := r98; have o4 := q_2r; have o5 := r_9; have l6 := tl_100; unfold q_r at o3 o4 o5; have g := q106.1; omega)⟩
                    have y106 : -99 ≤ q_iv (σ q_1b) p92_8.toInt ∧ q_iv (σ q_1b) p92_8.toInt ≤ 99 := q_kerb hI q_1T (by have o0 := c95; have o1 := iA26; have o2 := c76; have o3 := r98; have o4 := q_2r; have o5 := r_9; have l6 := tl_100; unfold q_r at o3 o4 o5; omega)
                    have o106 : 0 ≤ v106.toInt ∧ v106.toInt ≤ 129 * (q_2v.toInt - p92_8.toInt) := by rw [x106]; exact q_ob_rng (fun i' v' h1 h2 h3 h4 => S28 i' v' (Or.inl (by have o0 := c95; have o1 := iA26; have o2 := c76; have o3 := r98; have o4 := q_2r; have o5 := r_9; have l6 := tl_100; unfold q_r at o3 o4 o5; skip; omega)) h2 h3 h4) (by have o0 := iA26; have o1 := c76; have o2 := c95; have o3 := r98; have o4 := q_2r; have o5 := r_9; have l6 := tl_100; unfold q_r at o3 o4 o5; omega) (by have o0 := iJ101; have o1 := j2; have o2 := j1; have o3 := r101_7; have o4 := r92_3; unfold q_r at o3 o4; omega) y106
                    have rr106 : q_r v106 0 9000 := ⟨o106.1, (by have o0 := iA26; have o1 := c76; have o2 := c95; have o3 := r98; have o4 := q_2r; have o5 := r_9; have l6 := tl_100; unfold q_r at o3 o4 o5; have g := o106; omega)⟩
                    refine q_iload (pc := 109) hG dX12_smooth_109 3 rfl ?_
                    refine q_icmp_eq (pc := 111) hG 123 dX12_smooth_111 rfl ?_ ?_
                    · intro c111
                      refine q_iload (pc := 123) hG dX12_smooth_123 3 rfl ?_
                      refine q_iload (pc := 125) hG dX12_smooth_125 4 rfl ?_
                      refine q_aload_n (pc := 127) hG dX12_smooth_127 0 rfl ?_
                      refine q_getV (pc := 128) (v := .ref q_1b) hG fl_X12_7 dX12_smooth_128 tA0 (w28.same tA0 rfl q_1f) ?_
                      refine q_iconst (pc := 131) hG dX12_smooth_131 ki_0 ?_
                      refine q_iload (pc := 132) hG dX12_smooth_132 5 rfl ?_
                      refine q_iadd (pc := 134) hG dX12_smooth_134 (fun v134 e134 => ?_)
                      have r_10 := (q_addN (lo := 0) (hi := 63) e134 rl_0 r98 (by decide)).2
                      refine q_naldc (pc := 135) (a1 := -99) (a2 := 99) hG dX12_smooth_135 w28.1 q_1T (q_ix r_10 (by decide)) (q_nkerb r_10 (by decide)) (fun v135 f135 g135 => ?_)
                      have f_11 := (w28.2 _ _ _ _ q_1T rfl).symm.trans f135
                      refine q_isub (pc := 136) hG dX12_smooth_136 (fun v136 e136 => ?_)
                      refine q_pS (pc := 137) [.int v136] [.int p92_6] hG (c_X12_size τ s28 v136 w28.1) my_X12_size w895 w894 dX12_smooth_137 rfl rfl (Nat.le_of_ble_eq_true rfl) (by decide) (fun v137 p137 => ?_)
                      have r_12 := (q_subN (lo := (-129)) (hi := 129) e136 r101_7 g135 (by decide)).2
                      refine q_isub (pc := 140) hG dX12_smooth_140 (fun v140 e140 => ?_)
                      have r_13 := q_absN (lo := 0) (hi := 129) p137.2.2.1 r_12 (by decide)
                      have r_14 := (q_subN (lo := (-129)) (hi := 9000) e140 r92_6 r_13 (by decide)).2
                      have l141 : v140.toInt = q_iv (s28 q_3b) (61 * p92_8.toInt + p101_7.toInt + 30) := by
                        have f := f_11
                        rw [show v134.toInt = p92_8.toInt from (by have o0 := c95; have o1 := o106; have o2 := c111; have o3 := (q_addN (lo := 0) (hi := 63) e134 rl_0 r98 (by decide)).1; have o4 := (q_subN (lo := (-129)) (hi := 9000) e140 r92_6 r_13 (by decide)).1; have o5 := iA26; have o6 := c76; have o7 := (p137.2.2.1 (by have q := r_12; unfold q_r at q; omega)); have o8 := (q_subN (lo := (-129)) (hi := 129) e136 r101_7 g135 (by decide)).1; have o9 := iJ101; have o10 := j2; have o11 := j1; have o12 := r101_7; have o13 := r92_3; have o14 := r92_6; have o15 := r98; have o16 := q_2r; have o17 := rr106; have o18 := r_10; have o19 := g135; have o20 := r_12; have o21 := r_13; have o22 := r_14; have o23 := r_9; have l24 := tl_0; have l25 := tl_100; unfold q_r at o12 o13 o14 o15 o16 o17 o18 o19 o20 o21 o22 o23; omega)] at f
                        have g1 := x106
                        unfold q_ob at g1
                        rw [q_iv_at f] at g1
                        have g2 := p137.2.2.1 (by have o0 := (q_subN (lo := (-129)) (hi := 129) e136 r101_7 g135 (by decide)).1; have o1 := (p137.2.2.1 (by have q := r_12; unfold q_r at q; omega)); have o2 := (q_subN (lo := (-129)) (hi := 9000) e140 r92_6 r_13 (by decide)).1; have o3 := iJ101; have o4 := c111; have o5 := j2; have o6 := j1; have o7 := o106; have o8 := (q_addN (lo := 0) (hi := 63) e134 rl_0 r98 (by decide)).1; have o9 := iA26; have o10 := c76; have o11 := c95; have o12 := r101_7; have o13 := r92_3; have o14 := r92_6; have o15 := r98; have o16 := q_2r; have o17 := rr106; have o18 := r_10; have o19 := g135; have o20 := r_12; have o21 := r_13; have o22 := r_14; have o23 := r_9; have l24 := tl_0; have l25 := tl_100; unfold q_r at o12 o13 o14 o15 o16 o17 o18 o19 o20 o21 o22 o23; omega)
                        have g3 : v136.toInt = p101_7.toInt - v135.toInt := (by have o0 := iJ101; have o1 := (q_subN (lo := (-129)) (hi := 129) e136 r101_7 g135 (by decide)).1; have o2 := (p137.2.2.1 (by have q := r_12; unfold q_r at q; omega)); have o3 := (q_subN (lo := (-129)) (hi := 9000) e140 r92_6 r_13 (by decide)).1; have o4 := j2; have o5 := j1; have o6 := c111; have o7 := o106; have o8 := (q_addN (lo := 0) (hi := 63) e134 rl_0 r98 (by decide)).1; have o9 := iA26; have o10 := c76; have o11 := c95; have o12 := r101_7; have o13 := r92_3; have o14 := r92_6; have o15 := r98; have o16 := q_2r; have o17 := rr106; have o18 := r_10; have o19 := g135; have o20 := r_12; have o21 := r_13; have o22 := r_14; have o23 := r_9; have l24 := tl_0; have l25 := tl_100; unfold q_r at o12 o13 o14 o15 o16 o17 o18 o19 o20 o21 o22 o23; omega)
                        have g4 : v140.toInt = v106.toInt - v137.toInt := (by have o0 := o106; have o1 := c111; have o2 := (q_addN (lo := 0) (hi := 63) e134 rl_0 r98 (by decide)).1; have o3 := (p137.2.2.1 (by have q := r_12; unfold q_r at q; omega)); have o4 := (q_subN (lo := (-129)) (hi := 9000) e140 r92_6 r_13 (by decide)).1; have o5 := iA26; have o6 := c76; have o7 := c95; have o8 := (q_subN (lo := (-129)) (hi := 129) e136 r101_7 g135 (by decide)).1; have o9 := iJ101; have o10 := j2; have o11 := j1; have o12 := r101_7; have o13 := r92_3; have o14 := r92_6; have o15 := r98; have o16 := q_2r; have o17 := rr106; have o18 := r_10; have o19 := g135; have o20 := r_12; have o21 := r_13; have o22 := r_14; have o23 := r_9; have l24 := tl_0; have l25 := tl_100; unfold q_r at o12 o13 o14 o15 o16 o17 o18 o19 o20 o21 o22 o23; omega)
                        omega
                      have r141 := q106.1
                      rw [← l141] at r141
                      have rr140 : q_r v140 0 9000 := ⟨r141.1, (by have o0 := iA26; have o1 := c76; have o2 := c95; have o3 := o106; have o4 := c111; have o5 := (q_addN (lo := 0) (hi := 63) e134 rl_0 r98 (by decide)).1; have o6 := (q_subN (lo := (-129)) (hi := 9000) e140 r92_6 r_13 (by decide)).1; have o7 := (p137.2.2.1 (by have q := r_12; unfold q_r at q; omega)); have o8 := (q_subN (lo := (-129)) (hi := 129) e136 r101_7 g135 (by decide)).1; have o9 := iJ101; have o10 := j2; have o11 := j1; have o12 := r101_7; have o13 := r92_3; have o14 := r92_6; have o15 := r98; have o16 := q_2r; have o17 := rr106; have o18 := r_10; have o19 := g135; have o20 := r_12; have o21 := r_13; have o22 := r_14; have o23 := r_9; have l24 := tl_0; have l25 := tl_100; unfold q_r at o12 o13 o14 o15 o16 o17 o18 o19 o20 o21 o22 o23; have g := r141; omega)⟩
                      refine q_istore (pc := 141) [(6, .int v140), (0, .ref a0), (1, .int x1), (2, .int x2), (7, .int p101_7), (8, .int p92_8)] hG dX12_smooth_141 (by decide) rfl ?_
                      refine q_bipush (pc := 143) hG dX12_smooth_143 kb_m30 ?_
                      refine q_iload (pc := 145) hG dX12_smooth_145 4 rfl ?_
                      refine q_iload_n (pc := 147) hG dX12_smooth_147 2 rfl ?_
                      refine q_isub (pc := 148) hG dX12_smooth_148 (fun v148 e148 => ?_)
                      refine q_pS (pc := 149) [.int (-30), .int v148] [] hG (c_X12_max τ s28 (-30) v148 w28.1) my_X12_max w1003 w1002 dX12_smooth_149 rfl rfl (Nat.le_of_ble_eq_true rfl) (by decide) (fun v149 p149 => ?_)
                      have r_15 := (q_subN (lo := (-39)) (hi := 30) e148 r101_7 r_6 (by decide)).2
                      refine q_istore_n (pc := 152) [(3, .int v149), (6, .int v140), (0, .ref a0), (1, .int x1), (2, .int x2), (7, .int p101_7), (8, .int p92_8)] hG dX12_smooth_152 (by decide) rfl ?_
                      obtain ⟨v153, e153⟩ : ∃ z : Int32, z = p92_8 + Int32.ofInt 1 := ⟨_, rfl⟩
                      have h153 := q_incN (lo := 1) (hi := 64) r98 (by decide) (by decide) e153
                      refine q_iinc (pc := 153) [(8, .int v153), (3, .int v149), (6, .int v140), (0, .ref a0), (1, .int x1), (2, .int x2), (7, .int p101_7)] hG dX12_smooth_153 6 rfl e153 (by decide) rfl ?_
                      refine q_goto (pc := 156) 92 hG dX12_smooth_156 rfl ?_
                      refine q_lv [3, 4, 5, 1, 2, 6, 0] rfl ?_
                      have r_16 := q_maxN (lo := (-30)) (hi := 30) p149.2.2.1 rl_m30 r_15 (by decide)
                      exact ih92 v149 v140 p101_7 v153 r_16 rr140 r101_7 (q_r.mono h153.2 (by decide)) (fun q => q_x.mk (by rw [show v153.toInt = p92_8.toInt + 1 from (by have o0 := c95; have o1 := o106; have o2 := c111; have o3 := (q_addN (lo := 0) (hi := 63) e134 rl_0 r98 (by decide)).1; have o4 := (q_subN (lo := (-129)) (hi := 9000) e140 r92_6 r_13 (by decide)).1; have o5 := h153.1; have o6 := iA26; have o7 := c76; have o8 := (p137.2.2.1 (by have q := r_12; unfold q_r at q; omega)); have o9 := (q_subN (lo := (-129)) (hi := 129) e136 r101_7 g135 (by decide)).1; have o10 := (q_subN (lo := (-39)) (hi := 30) e148 r101_7 r_6 (by decide)).1; have o11 := p149.2.2.1; have o12 := g_4.1; have o13 := g_4.2; have o14 := iJ101; have o15 := j2; have o16 := j1; have o17 := r101_7; have o18 := r92_3; have o19 := r92_6; have o20 := r98; have o21 := q_2r; have o22 := rr106; have o23 := r_10; have o24 := g135; have o25 := r_12; have o26 := r_13; have o27 := rr140; have o28 := r_15; have o29 := r_16; have o30 := h153.2; have o31 := r_6; have o32 := r_9; have l33 := tl_m30; have l34 := tl_0; have l35 := tl_9; have l36 := tl_100; unfold q_r at o17 o18 o19 o20 o21 o22 o23 o24 o25 o26 o27 o28 o29 o30 o31 o32; omega), l141]; exact (q_so1.step S28 (by have o0 := iA26; have o1 := c76; have o2 := c95; have o3 := o106; have o4 := c111; have o5 := (q_addN (lo := 0) (hi := 63) e134 rl_0 r98 (by decide)).1; have o6 := (q_subN (lo := (-129)) (hi := 9000) e140 r92_6 r_13 (by decide)).1; have o7 := h153.1; have o8 := (p137.2.2.1 (by have q := r_12; unfold q_r at q; omega)); have o9 := (q_subN (lo := (-129)) (hi := 129) e136 r101_7 g135 (by decide)).1; have o10 := (q_subN (lo := (-39)) (hi := 30) e148 r101_7 r_6 (by decide)).1; have o11 := p149.2.2.1; have o12 := g_4.1; have o13 := g_4.2; have o14 := iJ101; have o15 := j2; have o16 := j1; have o17 := r101_7; have o18 := r92_3; have o19 := r92_6; have o20 := r98; have o21 := q_2r; have o22 := rr106; have o23 := r_10; have o24 := g135; have o25 := r_12; have o26 := r_13; have o27 := rr140; have o28 := r_15; have o29 := r_16; have o30 := h153.2; have o31 := r_6; have o32 := r_9; have l33 := tl_m30; have l34 := tl_0; have l35 := tl_9; have l36 := tl_100; have o37 := q; unfold q_r at o17 o18 o19 o20 o21 o22 o23 o24 o25 o26 o27 o28 o29 o30 o31 o32; omega) (by have o0 := iJ101; have o1 := (q_subN (lo := (-129)) (hi := 129) e136 r101_7 g135 (by decide)).1; have o2 := (p137.2.2.1 (by have q := r_12; unfold q_r at q; omega)); have o3 := (q_subN (lo := (-129)) (hi := 9000) e140 r92_6 r_13 (by decide)).1; have o4 := (q_subN (lo := (-39)) (hi := 30) e148 r101_7 r_6 (by decide)).1; have o5 := p149.2.2.1; have o6 := g_4.1; have o7 := g_4.2; have o8 := j2; have o9 := j1; have o10 := c111; have o11 := o106; have o12 := (q_addN (lo := 0) (hi := 63) e134 rl_0 r98 (by decide)).1; have o13 := h153.1; have o14 := iA26; have o15 := c76; have o16 := c95; have o17 := r101_7; have o18 := r92_3; have o19 := r92_6; have o20 := r98; have o21 := q_2r; have o22 := rr106; have o23 := r_10; have o24 := g135; have o25 := r_12; have o26 := r_13; have o27 := rr140; have o28 := r_15; have o29 := r_16; have o30 := h153.2; have o31 := r_6; have o32 := r_9; have l33 := tl_m30; have l34 := tl_0; have l35 := tl_9; have l36 := tl_100; unfold q_r at o17 o18 o19 o20 o21 o22 o23 o24 o25 o26 o27 o28 o29 o30 o31 o32; omega)).se (by have o0 := g_4.1; have o1 := g_4.2; have o2 := iJ101; have o3 := (q_subN (lo := (-129)) (hi := 129) e136 r101_7 g135 (by decide)).1; have o4 := (p137.2.2.1 (by have q := r_12; unfold q_r at q; omega)); have o5 := (q_subN (lo := (-129)) (hi := 9000) e140 r92_6 r_13 (by decide)).1; have o6 := (q_subN (lo := (-39)) (hi := 30) e148 r101_7 r_6 (by decide)).1; have o7 := p149.2.2.1; have o8 := j2; have o9 := j1; have o10 := c111; have o11 := o106; have o12 := (q_addN (lo := 0) (hi := 63) e134 rl_0 r98 (by decide)).1; have o13 := h153.1; have o14 := iA26; have o15 := c76; have o16 := c95; have o17 := r101_7; have o18 := r92_3; have o19 := r92_6; have o20 := r98; have o21 := q_2r; have o22 := rr106; have o23 := r_10; have o24 := g135; have o25 := r_12; have o26 := r_13; have o27 := rr140; have o28 := r_15; have o29 := r_16; have o30 := h153.2; have o31 := r_6; have o32 := r_9; have l33 := tl_m30; have l34 := tl_0; have l35 := tl_9; have l36 := tl_100; unfold q_r at o17 o18 o19 o20 o21 o22 o23 o24 o25 o26 o27 o28 o29 o30 o31 o32; omega))) (q_measU hm92 (by have o0 := c95; have o1 := o106; have o2 := c111; have o3 := (q_addN (lo := 0) (hi := 63) e134 rl_0 r98 (by decide)).1; have o4 := (q_subN (lo := (-129)) (hi := 9000) e140 r92_6 r_13 (by decide)).1; have o5 := h153.1; have o6 := iA26; have o7 := c76; have o8 := (p137.2.2.1 (by have q := r_12; unfold q_r at q; omega)); have o9 := (q_subN (lo := (-129)) (hi := 129) e136 r101_7 g135 (by decide)).1; have o10 := (q_subN (lo := (-39)) (hi := 30) e148 r101_7 r_6 (by decide)).1; have o11 := p149.2.2.1; have o12 := g_4.1; have o13 := g_4.2; have o14 := iJ101; have o15 := j2; have o16 := j1; have o17 := r101_7; have o18 := r92_3; have o19 := r92_6; have o20 := r98; have o21 := q_2r; have o22 := rr106; have o23 := r_10; have o24 := g135; have o25 := r_12; have o26 := r_13; have o27 := rr140; have o28 := r_15; have o29 := r_16; have o30 := h153.2; have o31 := r_6; have o32 := r_9; have l33 := tl_m30; have l34 := tl_0; have l35 := tl_9; have l36 := tl_100; unfold q_r at o17 o18 o19 o20 o21 o22 o23 o24 o25 o26 o27 o28 o29 o30 o31 o32; omega) (h153.2).2)
                    intro c111
                    refine q_iload (pc := 114) hG dX12_smooth_114 4 rfl ?_
                    have lt114 : p101_7.toInt < js := (Int.lt_or_eq_of_le iJ101).elim id (fun h => absurd j3 (by rw [← h, ← x106]; exact (by have o0 := o106; have o1 := c111; have o2 := iA26; have o3 := c76; have o4 := c95; have o5 := r92_6; have o6 := r98; have o7 := q_2r; have o8 := rr106; have o9 := r_9; have l10 := tl_100; unfold q_r at o5 o6 o7 o8 o9; omega)))
                    refine q_iconst (pc := 116) hG dX12_smooth_116 ki_1 ?_
                    refine q_iadd (pc := 117) hG dX12_smooth_117 (fun v117 e117 => ?_)
                    refine q_istore (pc := 118) [(7, .int v117), (0, .ref a0), (1, .int x1), (2, .int x2), (6, .int p92_6), (8, .int p92_8)] hG dX12_smooth_118 (by decide) rfl ?_
                    refine q_goto (pc := 120) 101 hG dX12_smooth_120 rfl ?_
                    refine q_lv [1, 2, 3, 4, 0, 5] rfl ?_
                    have r_17 := (q_addN (lo := (-29)) (hi := 31) e117 r101_7 rl_1 (by decide)).2
                    exact ih101 v117 (show q_r v117 (-30) 30 from ⟨(by have o0 := (q_addN (lo := (-29)) (hi := 31) e117 r101_7 rl_1 (by decide)).1; have o1 := iJ101; have o2 := lt114; have o3 := j2; have o4 := j1; have o5 := r101_7; have o6 := r92_3; have o7 := r_17; have l8 := tl_1; unfold q_r at o5 o6 o7; omega), (by have o0 := (q_addN (lo := (-29)) (hi := 31) e117 r101_7 rl_1 (by decide)).1; have o1 := iJ101; have o2 := lt114; have o3 := j2; have o4 := j1; have o5 := r101_7; have o6 := r92_3; have o7 := r_17; have l8 := tl_1; unfold q_r at o5 o6 o7; omega)⟩) (by have o0 := j2; have o1 := j1; have o2 := iJ101; have o3 := lt114; have o4 := (q_addN (lo := (-29)) (hi := 31) e117 r101_7 rl_1 (by decide)).1; have o5 := r101_7; have o6 := r92_3; have o7 := r_17; have l8 := tl_1; unfold q_r at o5 o6 o7; omega) (by have o0 := j2; have o1 := j1; have o2 := iJ101; have o3 := lt114; have o4 := (q_addN (lo := (-29)) (hi := 31) e117 r101_7 rl_1 (by decide)).1; have o5 := r101_7; have o6 := r92_3; have o7 := r_17; have l8 := tl_1; have o9 := hm101; unfold q_r at o5 o6 o7; omega)
                refine q_lv [1, 2, 3, 5, 0, 6] rfl ?_
                exact J101 _ p92_3 r92_3 (by have o0 := j2; have o1 := j1; have o2 := r92_3; unfold q_r at o2; omega) (Nat.lt_succ_self _)
            refine q_lv [3, 4, 5, 6, 2, 1, 0] rfl ?_
            exact J92 _ (-30) p46_5 0 0 (q_r.mono rl_m30 (by decide)) r82 (q_r.mono rl_0 (by decide)) (q_r.mono rl_0 (by decide)) (fun _ => q_x.mk (by rw [tl_0]; exact (iB46.elim (fun q => absurd q.2 (by have o0 := c50; have o1 := r_7; have l2 := tl_30; unfold q_r at o1; omega)) (fun q => q.1)).se (Or.inr (by have l0 := tl_m30; omega)))) (Nat.lt_succ_self _)
          intro c76
          refine q_iload (pc := 79) hG dX12_smooth_79 5 rfl ?_
          exact q_irt hG hE dX12_smooth_81 ⟨w28, (q_r.mono r46_5 (by decide))⟩
        intro c50
        refine q_iload (pc := 53) hG dX12_smooth_53 5 rfl ?_
        refine q_aload_n (pc := 55) hG dX12_smooth_55 0 rfl ?_
        refine q_iconst (pc := 56) hG dX12_smooth_56 ki_0 ?_
        refine q_iload (pc := 57) hG dX12_smooth_57 6 rfl ?_
        have r_18 := q_rle r46_6 rl_30 c50
        refine q_pV (pc := 59) [.int 0, .int p46_6] [.int p46_5] hG (c_X12_offBy τ s28 a0 0 p46_6 w28.1 tA0 (q_r.mono rl_0 (by decide)) r_18) my_X12_offBy mv_X12_offBy w1048 dX12_smooth_59 tA0 (by decide) rfl rfl (Nat.le_of_ble_eq_true rfl) (by decide) (fun v59 p59 => ?_)
        have ev59 := (p59.2 q_1b q_3b (w28.same tA0 rfl q_1f) (w28.same tA0 rfl q_3f))
        rw [((funext fun j => w28.2.arr q_1T (by decide) rfl) : s28 q_1b = σ q_1b)] at ev59
        have q59 := S28 (0 : Int32).toInt p46_6.toInt (Or.inl (by have l0 := tl_0; omega)) (by have o0 := iA26; have o1 := q_2r; have l2 := tl_0; unfold q_r at o1; omega) (by have o0 := c50; have o1 := r_18; have l2 := tl_30; unfold q_r at o1; omega) (by have o0 := c50; have o1 := r_18; have l2 := tl_30; unfold q_r at o1; omega)
        have x59 := ev59 ⟨q59.1.1, (by have o0 := iA26; have o1 := q_2r; have l2 := tl_0; unfold q_r at o1; have g := q59.1; omega)⟩
        have y59 : -99 ≤ q_iv (σ q_1b) (0 : Int32).toInt ∧ q_iv (σ q_1b) (0 : Int32).toInt ≤ 99 := q_kerb hI q_1T (by have l0 := tl_0; omega)
        have o59 : 0 ≤ v59.toInt ∧ v59.toInt ≤ 129 * (q_2v.toInt - (0 : Int32).toInt) := by rw [x59]; exact q_ob_rng (fun i' v' h1 h2 h3 h4 => S28 i' v' (Or.inl (by have l0 := tl_0; skip; omega)) h2 h3 h4) (by have o0 := iA26; have o1 := q_2r; have l2 := tl_0; unfold q_r at o1; omega) (by have o0 := c50; have o1 := r_18; have l2 := tl_30; unfold q_r at o1; omega) y59
        have rr59 : q_r v59 0 9000 := ⟨o59.1, (by have o0 := iA26; have o1 := q_2r; have l2 := tl_0; unfold q_r at o1; have g := o59; omega)⟩
        refine q_pS (pc := 62) [.int p46_5, .int v59] [] hG (c_X12_min τ s28 p46_5 v59 w28.1) my_X12_min w1000 w999 dX12_smooth_62 rfl rfl (Nat.le_of_ble_eq_true rfl) (by decide) (fun v62 p62 => ?_)
        have m62 := p62.2.2
        have r_19 := q_minN (lo := 0) (hi := 9000) p62.2.2 r46_5 rr59 (by decide)
        have n62 := q_so1.mn (y := v59) (w := p46_6.toInt) (i := 0) (iB46.elim (fun q => Or.inl ⟨q.1, (by have o0 := iA26; have o1 := o59; have o2 := p62.2.2; have o3 := r46_5; have o4 := q_2r; have o5 := rr59; have o6 := r_19; have l7 := tl_0; unfold q_r at o3 o4 o5 o6; omega)⟩) (fun q => Or.inr q.1)) (show p46_5.toInt = _ from rfl) ⟨(by have o0 := c50; have o1 := r_18; have l2 := tl_30; unfold q_r at o1; omega), (by have o0 := c50; have o1 := r_18; have l2 := tl_30; unfold q_r at o1; omega)⟩ (x59.trans (by rw [tl_0])) m62
        refine q_istore (pc := 65) [(5, .int v62), (0, .ref a0), (1, .int x1), (2, .int x2), (3, .int (-30)), (4, .int 30), (6, .int p46_6)] hG dX12_smooth_65 (by decide) rfl ?_
        obtain ⟨v67, e67⟩ : ∃ z : Int32, z = p46_6 + Int32.ofInt 1 := ⟨_, rfl⟩
        have h67 := q_incN (lo := (-29)) (hi := 31) r_18 (by decide) (by decide) e67
        refine q_iinc (pc := 67) [(6, .int v67), (5, .int v62), (0, .ref a0), (1, .int x1), (2, .int x2), (3, .int (-30)), (4, .int 30)] hG dX12_smooth_67 6 rfl e67 (by decide) rfl ?_
        refine q_goto (pc := 70) 46 hG dX12_smooth_70 rfl ?_
        refine q_lv [2, 3, 4, 5, 6, 1, 0] rfl ?_
        exact ih46 v62 v67 (q_r.mono r_19 (by decide)) (q_r.mono h67.2 (by decide)) (Or.inr ⟨n62, (by have o0 := o59; have o1 := p62.2.2; have o2 := iA26; have o3 := r46_5; have o4 := q_2r; have o5 := rr59; have o6 := r_19; have l7 := tl_0; have o8 := o59; have o9 := m62; unfold q_r at o3 o4 o5 o6; omega), (by have o0 := o59; have o1 := p62.2.2; have o2 := iA26; have o3 := r46_5; have o4 := q_2r; have o5 := rr59; have o6 := r_19; have l7 := tl_0; have o8 := o59; have o9 := m62; unfold q_r at o3 o4 o5 o6; omega)⟩) (q_measU hm46 (by have o0 := c50; have o1 := h67.1; have o2 := r_18; have o3 := h67.2; have l4 := tl_30; unfold q_r at o2 o3; omega) (h67.2).2)
    refine q_lv [4, 5, 6, 3, 2, 1, 0] rfl ?_
    exact J46 _ 1000000000 (-30) (q_r.mono rl_1000000000 (by decide)) (q_r.mono rl_m30 (by decide)) (Or.inl ⟨(by have l0 := tl_1000000000; omega), (by have l0 := tl_m30; omega)⟩) (Nat.lt_succ_self _)
  refine q_icmp_eq (pc := 13) hG 26 dX12_smooth_13 rfl ?_ ?_
  · intro c13
    refine q_lv [0, 1, 2] rfl ?_
    have r_20 := q_req rl_100 c13
    exact J26 (by have o0 := c13; have o1 := q_2r; have o2 := r_20; have l3 := tl_100; unfold q_r at o1 o2; omega)
  intro c13
  refine q_aload_n (pc := 16) hG dX12_smooth_16 0 rfl ?_
  refine q_iload_n (pc := 17) hG dX12_smooth_17 2 rfl ?_
  refine q_pV (pc := 18) [.int x2] [] hG (c_X12_isDot τ σ a0 x2 hI tA0) my_X12_isDot mv_X12_isDot w836 dX12_smooth_18 tA0 (by decide) rfl rfl (Nat.le_of_ble_eq_true rfl) (by decide) (fun v18 p18 => ?_)
  refine q_if_ne (pc := 21) hG 26 dX12_smooth_21 rfl ?_ ?_
  · intro c21
    have g_21 := p18.2.2.1 (q_one p18.1 c21)
    have r_22 := q_rge (q_r_any x2) rl_0 (show (0 : Int32).toInt ≤ _ from g_21.1)
    have r_23 := q_rle r_22 rl_63 (show _ ≤ (63 : Int32).toInt from g_21.2.1)
    refine q_lv [0, 1, 2] rfl ?_
    exact J26 (by have o0 := c13; have o1 := (show (0 : Int32).toInt ≤ _ from g_21.1); have o2 := (show _ ≤ (63 : Int32).toInt from g_21.2.1); have o3 := (g_21.2.2 q_1b q_2v q_1f (show σ q_1b 512 = _ from q_2g)); have o4 := q_2r; have o5 := r_23; have l6 := tl_0; have l7 := tl_63; have l8 := tl_100; unfold q_r at o4 o5; omega)
  intro c21
  refine q_iconst (pc := 24) hG dX12_smooth_24 ki_m1 ?_
  exact q_irt hG hE dX12_smooth_25 ⟨hS0, (q_r.mono rl_m1 (by decide))⟩
