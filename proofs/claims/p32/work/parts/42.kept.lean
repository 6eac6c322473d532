/-! laid by wip/p2/build.py -/
theorem dX12_keep_0 : decode cX12_keep 0 = .ok (.aload_n 0, 1) := by decide +kernel
theorem dX12_keep_1 : decode cX12_keep 1 = .ok (.iconst 1, 1) := by decide +kernel
theorem dX12_keep_2 : decode cX12_keep 2 = .ok (.putfield 427, 3) := by decide +kernel
theorem dX12_keep_5 : decode cX12_keep 5 = .ok (.aload_n 0, 1) := by decide +kernel
theorem dX12_keep_6 : decode cX12_keep 6 = .ok (.getfield 7, 3) := by decide +kernel
theorem dX12_keep_9 : decode cX12_keep 9 = .ok (.aload_n 0, 1) := by decide +kernel
theorem dX12_keep_10 : decode cX12_keep 10 = .ok (.getfield 16, 3) := by decide +kernel
theorem dX12_keep_13 : decode cX12_keep 13 = .ok (.invokestatic 299, 3) := by decide +kernel
theorem dX12_keep_16 : decode cX12_keep 16 = .ok (.aload_n 0, 1) := by decide +kernel
theorem dX12_keep_17 : decode cX12_keep 17 = .ok (.invokevirtual 303, 3) := by decide +kernel
theorem dX12_keep_20 : decode cX12_keep 20 = .ok (.ireturn, 1) := by decide +kernel
def md_X12_keep : List (Nat × Nat) := [(10, 45), (102, 0)]
set_option maxRecDepth 100000 in
set_option maxHeartbeats 4000000 in
theorem c_X12_keep {l : Launch} {D : q_D} (τ : q_T) (σ : q_V) (a0 : Nat) (hI : q_I τ σ) (tA0 : τ a0 = some (10, 1)) : q_Ci l D yX12_keep cX12_keep 1 (some .int) 2 43 τ σ [.ref a0] (fun r σ1 => q_S md_X12_keep τ σ σ1 ∧ (q_r r (-2147483648) 2147483647) ∧ ((r.toInt, fx_N σ1) = f_X12_keep (fx_N σ) a0) ∧ (∀ b : Nat, σ a0 2 = .ref b → ∀ j : Nat, j < 549 → q_v τ (q_f 100 j) (σ1 b j)) ∧ (σ1 a0 45 = .int 1) ∧ (∀ bn bk : Nat, σ a0 0 = .ref bn → σ a0 2 = .ref bk → σ1 bk (512 : Int32).toInt.toNat = σ bn (512 : Int32).toInt.toNat) ∧ (∀ bn bk : Nat, σ a0 0 = .ref bn → σ a0 2 = .ref bk → ∀ j : Nat, j < 192 → σ1 bk j = σ bn j)) := by
  refine q_meti rfl (Nat.le_of_ble_eq_true rfl) (fun X hG hE => ?_)
  show q_O X 0 0 τ σ 0 [(0, .ref a0)] []
  have hS0 : q_S md_X12_keep τ σ σ := q_S.rf hI
  obtain ⟨Fv, hF⟩ : ∃ z, fx_eq z (f_X12_keep (fx_N σ) a0) := ⟨_, fx_rf⟩
  have hF0 := hF
  unfold f_X12_keep at hF
  obtain ⟨q_1b, q_1f, q_1T⟩ := (hI a0 10 1 tA0 0 (by decide)).ref (k := 100) (n := 549) rfl
  replace hF := fx_R hF q_1f rfl
  obtain ⟨q_2b, q_2f, q_2T⟩ := (hI a0 10 1 tA0 2 (by decide)).ref (k := 102) (n := 549) rfl
  replace hF := fx_R hF q_2f rfl
  refine q_aload_n (pc := 0) hG dX12_keep_0 0 rfl ?_
  refine q_iconst (pc := 1) hG dX12_keep_1 ki_1 ?_
  refine q_putZ (pc := 2) hG fl_X12_427 dX12_keep_2 hS0 tA0 ff_10_45 (q_r.mono rl_1 (by decide)) (by decide) rfl (fun s2 u2 w2 => ?_)
  replace hF := fx_P hF u2 rfl tl_1
  have m2 : s2 a0 45 = .int 1 := by rw [u2]; exact q_up_same
  refine q_aload_n (pc := 5) hG dX12_keep_5 0 rfl ?_
  refine q_getV (pc := 6) (v := .ref q_1b) hG fl_X12_7 dX12_keep_6 tA0 (w2.same tA0 rfl q_1f) ?_
  refine q_aload_n (pc := 9) hG dX12_keep_9 0 rfl ?_
  refine q_getV (pc := 10) (v := .ref q_2b) hG fl_X12_16 dX12_keep_10 tA0 (w2.same tA0 rfl q_2f) ?_
  refine q_cSv (pc := 13) [.ref q_1b, .ref q_2b] [] hG (c_X12_copies_100_102 τ s2 q_1b q_2b w2.1 q_1T q_2T) my_X12_copies w1019 w1018 dX12_keep_13 rfl rfl (Nat.le_of_ble_eq_true rfl) (by decide) (fun s13 p13 => ?_)
  have w13 := w2.trans p13.1 rfl
  replace hF := fx_S hF p13.2.1
  refine q_aload_n (pc := 16) hG dX12_keep_16 0 rfl ?_
  refine q_pV (pc := 17) [] [] hG (c_X12_paintedAll τ s13 a0 w13.1 tA0) my_X12_paintedAll mv_X12_paintedAll w1021 dX12_keep_17 tA0 (by decide) rfl rfl (Nat.le_of_ble_eq_true rfl) (by decide) (fun v17 p17 => ?_)
  replace hF := fx_E hF p17.2
  exact q_irt hG hE dX12_keep_20 ⟨w13, p17.1, (fx_end hF hF0), (fun b e j hj => by cases (e.symm.trans q_2f); rw [p13.2.2 j hj]; exact (w2.1 _ _ _ q_1T j hj)), (p13.1.same tA0 rfl m2), (fun bn bk hbn hbk => by cases hbn.symm.trans q_1f; cases hbk.symm.trans q_2f; rw [p13.2.2 _ (by decide)]; rw [u2]; exact q_keepK q_1T tA0 (by decide)), (fun bn bk hbn hbk j hj => by cases hbn.symm.trans q_1f; cases hbk.symm.trans q_2f; rw [p13.2.2 j (by omega)]; rw [u2]; exact q_keepK q_1T tA0 (by decide))⟩
theorem dX12_undo_0 : decode cX12_undo 0 = .ok (.aload_n 0, 1) := by decide +kernel
theorem dX12_undo_1 : decode cX12_undo 1 = .ok (.getfield 427, 3) := by decide +kernel
theorem dX12_undo_4 : decode cX12_undo 4 = .ok (.ifCond .ne 5, 3) := by decide +kernel
theorem dX12_undo_7 : decode cX12_undo 7 = .ok (.iconst 0, 1) := by decide +kernel
theorem dX12_undo_8 : decode cX12_undo 8 = .ok (.ireturn, 1) := by decide +kernel
theorem dX12_undo_9 : decode cX12_undo 9 = .ok (.aload_n 0, 1) := by decide +kernel
theorem dX12_undo_10 : decode cX12_undo 10 = .ok (.getfield 16, 3) := by decide +kernel
theorem dX12_undo_13 : decode cX12_undo 13 = .ok (.aload_n 0, 1) := by decide +kernel
theorem dX12_undo_14 : decode cX12_undo 14 = .ok (.getfield 7, 3) := by decide +kernel
theorem dX12_undo_17 : decode cX12_undo 17 = .ok (.invokestatic 299, 3) := by decide +kernel
theorem dX12_undo_20 : decode cX12_undo 20 = .ok (.iconst 1, 1) := by decide +kernel
theorem dX12_undo_21 : decode cX12_undo 21 = .ok (.ireturn, 1) := by decide +kernel
def md_X12_undo : List (Nat × Nat) := [(100, 0)]
set_option maxRecDepth 100000 in
set_option maxHeartbeats 4000000 in
theorem c_X12_undo {l : Launch} {D : q_D} (τ : q_T) (σ : q_V) (a0 : Nat) (hI : q_I τ σ) (tA0 : τ a0 = some (10, 1)) (hK : q_kp τ σ a0) : q_Ci l D yX12_undo cX12_undo 1 (some .boolean) 1 22 τ σ [.ref a0] (fun r σ1 => q_S md_X12_undo τ σ σ1 ∧ (q_r r 0 1) ∧ ((r.toInt, fx_N σ1) = f_X12_undo (fx_N σ) a0) ∧ (∀ k : Int32, σ a0 45 = .int k → (r.toInt = 1 ↔ k.toInt ≠ 0)) ∧ (∀ bn bk : Nat, σ a0 0 = .ref bn → σ a0 2 = .ref bk → (r.toInt = 1 → σ1 bn (512 : Int32).toInt.toNat = σ bk (512 : Int32).toInt.toNat) ∧ (r.toInt = 0 → σ1 bn (512 : Int32).toInt.toNat = σ bn (512 : Int32).toInt.toNat)) ∧ (∀ bn bk : Nat, σ a0 0 = .ref bn → σ a0 2 = .ref bk → (r.toInt = 1 → ∀ j : Nat, j < 192 → σ1 bn j = σ bk j) ∧ (r.toInt = 0 → fx_kr σ σ1 bn))) := by
  refine q_meti rfl (Nat.le_of_ble_eq_true rfl) (fun X hG hE => ?_)
  show q_O X 0 0 τ σ 0 [(0, .ref a0)] []
  have hS0 : q_S md_X12_undo τ σ σ := q_S.rf hI
  obtain ⟨Fv, hF⟩ : ∃ z, fx_eq z (f_X12_undo (fx_N σ) a0) := ⟨_, fx_rf⟩
  have hF0 := hF
  unfold f_X12_undo at hF
  obtain ⟨q_1v, q_1f, q_1r⟩ := (hI a0 10 1 tA0 45 (by decide)).int ff_10_45
  replace hF := fx_I hF q_1f rfl
  obtain ⟨q_2b, q_2f, q_2T⟩ := (hI a0 10 1 tA0 0 (by decide)).ref (k := 100) (n := 549) rfl
  replace hF := fx_R hF q_2f rfl
  obtain ⟨q_3b, q_3f, q_3T⟩ := (hI a0 10 1 tA0 2 (by decide)).ref (k := 102) (n := 549) rfl
  replace hF := fx_R hF q_3f rfl
  refine q_aload_n (pc := 0) hG dX12_undo_0 0 rfl ?_
  refine q_getV (pc := 1) (v := .int q_1v) hG fl_X12_427 dX12_undo_1 tA0 q_1f ?_
  refine q_if_ne (pc := 4) hG 9 dX12_undo_4 rfl ?_ ?_
  · intro c4
    replace hF := fx_eq2 hF rfl rfl c4
    refine q_aload_n (pc := 9) hG dX12_undo_9 0 rfl ?_
    refine q_getV (pc := 10) (v := .ref q_3b) hG fl_X12_16 dX12_undo_10 tA0 q_3f ?_
    refine q_aload_n (pc := 13) hG dX12_undo_13 0 rfl ?_
    refine q_getV (pc := 14) (v := .ref q_2b) hG fl_X12_7 dX12_undo_14 tA0 q_2f ?_
    refine q_cSv (pc := 17) [.ref q_3b, .ref q_2b] [] hG (c_X12_copies_102_100 τ σ q_3b q_2b hI q_3T q_2T (fun j hj => hK _ _ q_1f c4 q_3f j hj)) my_X12_copies w1019 w1018 dX12_undo_17 rfl rfl (Nat.le_of_ble_eq_true rfl) (by decide) (fun s17 p17 => ?_)
    have w17 := hS0.trans p17.1 rfl
    replace hF := fx_S hF p17.2.1
    refine q_iconst (pc := 20) hG dX12_undo_20 ki_1 ?_
    have r_4 := q_neL (c := 1) q_1r c4 (by decide)
    exact q_zrt hG hE dX12_undo_21 (q_r.mono rl_1 (by decide)) ⟨w17, (q_r.mono rl_1 (by decide)), (by rw [tl_1]; exact fx_end hF hF0), (fun k e => by have q := e.symm.trans q_1f; cases q; exact (by have o0 := c4; have o1 := r_4; have l2 := tl_1; unfold q_r at o1; omega)), (fun bn bk hbn hbk => by cases hbn.symm.trans q_2f; cases hbk.symm.trans q_3f; exact ⟨fun _ => p17.2.2 _ (by decide), fun q => absurd q (by have l0 := tl_1; omega)⟩), (fun bn bk hbn hbk => by cases hbn.symm.trans q_2f; cases hbk.symm.trans q_3f; exact ⟨fun _ j hj => p17.2.2 j (by omega), fun q => absurd q (by have l0 := tl_1; omega)⟩)⟩
  intro c4
  replace hF := fx_eq1 hF rfl rfl c4
  refine q_iconst (pc := 7) hG dX12_undo_7 ki_0 ?_
  have r_5 := q_zeq c4
  exact q_zrt hG hE dX12_undo_8 (q_r.mono rl_0 (by decide)) ⟨hS0, (q_r.mono rl_0 (by decide)), (by rw [tl_0]; exact fx_end hF hF0), (fun k e => by have q := e.symm.trans q_1f; cases q; exact (by have o0 := c4; have o1 := r_5; have l2 := tl_0; unfold q_r at o1; omega)), (fun bn bk hbn hbk => by cases hbn.symm.trans q_2f; cases hbk.symm.trans q_3f; exact ⟨fun q => absurd q (by have l0 := tl_0; omega), fun _ => rfl⟩), (fun bn bk hbn hbk => by cases hbn.symm.trans q_2f; cases hbk.symm.trans q_3f; exact ⟨fun q => absurd q (by have l0 := tl_0; omega), fun _ => fx_kr.rf⟩)⟩
theorem dX12_tried_0 : decode cX12_tried 0 = .ok (.iload_n 1, 1) := by decide +kernel
theorem dX12_tried_1 : decode cX12_tried 1 = .ok (.iconst 1, 1) := by decide +kernel
theorem dX12_tried_2 : decode cX12_tried 2 = .ok (.sipush 600, 3) := by decide +kernel
theorem dX12_tried_5 : decode cX12_tried 5 = .ok (.invokestatic 102, 3) := by decide +kernel
theorem dX12_tried_8 : decode cX12_tried 8 = .ok (.ifCond .eq 13, 3) := by decide +kernel
theorem dX12_tried_11 : decode cX12_tried 11 = .ok (.iload_n 2, 1) := by decide +kernel
theorem dX12_tried_12 : decode cX12_tried 12 = .ok (.iconst 0, 1) := by decide +kernel
theorem dX12_tried_13 : decode cX12_tried 13 = .ok (.bipush 6, 2) := by decide +kernel
theorem dX12_tried_15 : decode cX12_tried 15 = .ok (.invokestatic 102, 3) := by decide +kernel
theorem dX12_tried_18 : decode cX12_tried 18 = .ok (.ifCond .ne 5, 3) := by decide +kernel
theorem dX12_tried_21 : decode cX12_tried 21 = .ok (.iconst (-1), 1) := by decide +kernel
theorem dX12_tried_22 : decode cX12_tried 22 = .ok (.ireturn, 1) := by decide +kernel
theorem dX12_tried_23 : decode cX12_tried 23 = .ok (.aload_n 0, 1) := by decide +kernel
theorem dX12_tried_24 : decode cX12_tried 24 = .ok (.getfield 7, 3) := by decide +kernel
theorem dX12_tried_27 : decode cX12_tried 27 = .ok (.aload_n 0, 1) := by decide +kernel
theorem dX12_tried_28 : decode cX12_tried 28 = .ok (.getfield 13, 3) := by decide +kernel
theorem dX12_tried_31 : decode cX12_tried 31 = .ok (.invokestatic 299, 3) := by decide +kernel
theorem dX12_tried_34 : decode cX12_tried 34 = .ok (.aload_n 0, 1) := by decide +kernel
theorem dX12_tried_35 : decode cX12_tried 35 = .ok (.iload_n 1, 1) := by decide +kernel
theorem dX12_tried_36 : decode cX12_tried 36 = .ok (.invokevirtual 296, 3) := by decide +kernel
theorem dX12_tried_39 : decode cX12_tried 39 = .ok (.iload_n 2, 1) := by decide +kernel
theorem dX12_tried_40 : decode cX12_tried 40 = .ok (.tableswitch 119 0 5 #[40, 48, 56, 64, 95, 107], 40) := by decide +kernel
theorem dX12_tried_80 : decode cX12_tried 80 = .ok (.aload_n 0, 1) := by decide +kernel
theorem dX12_tried_81 : decode cX12_tried 81 = .ok (.invokevirtual 303, 3) := by decide +kernel
theorem dX12_tried_84 : decode cX12_tried 84 = .ok (.istore_n 3, 1) := by decide +kernel
theorem dX12_tried_85 : decode cX12_tried 85 = .ok (.goto 79, 3) := by decide +kernel
theorem dX12_tried_88 : decode cX12_tried 88 = .ok (.aload_n 0, 1) := by decide +kernel
theorem dX12_tried_89 : decode cX12_tried 89 = .ok (.invokevirtual 306, 3) := by decide +kernel
theorem dX12_tried_92 : decode cX12_tried 92 = .ok (.istore_n 3, 1) := by decide +kernel
theorem dX12_tried_93 : decode cX12_tried 93 = .ok (.goto 71, 3) := by decide +kernel
theorem dX12_tried_96 : decode cX12_tried 96 = .ok (.aload_n 0, 1) := by decide +kernel
theorem dX12_tried_97 : decode cX12_tried 97 = .ok (.invokevirtual 309, 3) := by decide +kernel
theorem dX12_tried_100 : decode cX12_tried 100 = .ok (.istore_n 3, 1) := by decide +kernel
theorem dX12_tried_101 : decode cX12_tried 101 = .ok (.goto 63, 3) := by decide +kernel
theorem dX12_tried_104 : decode cX12_tried 104 = .ok (.aload_n 0, 1) := by decide +kernel
theorem dX12_tried_105 : decode cX12_tried 105 = .ok (.invokevirtual 303, 3) := by decide +kernel
theorem dX12_tried_108 : decode cX12_tried 108 = .ok (.aload_n 0, 1) := by decide +kernel
theorem dX12_tried_109 : decode cX12_tried 109 = .ok (.getfield 7, 3) := by decide +kernel
theorem dX12_tried_112 : decode cX12_tried 112 = .ok (.sipush 512, 3) := by decide +kernel
theorem dX12_tried_115 : decode cX12_tried 115 = .ok (.iaload, 1) := by decide +kernel
theorem dX12_tried_116 : decode cX12_tried 116 = .ok (.if_icmp .ne 14, 3) := by decide +kernel
theorem dX12_tried_119 : decode cX12_tried 119 = .ok (.aload_n 0, 1) := by decide +kernel
theorem dX12_tried_120 : decode cX12_tried 120 = .ok (.invokevirtual 309, 3) := by decide +kernel
theorem dX12_tried_123 : decode cX12_tried 123 = .ok (.ifCond .ne 7, 3) := by decide +kernel
theorem dX12_tried_126 : decode cX12_tried 126 = .ok (.iconst 1, 1) := by decide +kernel
theorem dX12_tried_127 : decode cX12_tried 127 = .ok (.goto 4, 3) := by decide +kernel
theorem dX12_tried_130 : decode cX12_tried 130 = .ok (.iconst 0, 1) := by decide +kernel
theorem dX12_tried_131 : decode cX12_tried 131 = .ok (.istore_n 3, 1) := by decide +kernel
theorem dX12_tried_132 : decode cX12_tried 132 = .ok (.goto 32, 3) := by decide +kernel
theorem dX12_tried_135 : decode cX12_tried 135 = .ok (.aload_n 0, 1) := by decide +kernel
theorem dX12_tried_136 : decode cX12_tried 136 = .ok (.getfield 7, 3) := by decide +kernel
theorem dX12_tried_139 : decode cX12_tried 139 = .ok (.sipush 520, 3) := by decide +kernel
theorem dX12_tried_142 : decode cX12_tried 142 = .ok (.iaload, 1) := by decide +kernel
theorem dX12_tried_143 : decode cX12_tried 143 = .ok (.istore_n 3, 1) := by decide +kernel
theorem dX12_tried_144 : decode cX12_tried 144 = .ok (.goto 20, 3) := by decide +kernel
theorem dX12_tried_147 : decode cX12_tried 147 = .ok (.aload_n 0, 1) := by decide +kernel
theorem dX12_tried_148 : decode cX12_tried 148 = .ok (.getfield 7, 3) := by decide +kernel
theorem dX12_tried_151 : decode cX12_tried 151 = .ok (.sipush 521, 3) := by decide +kernel
theorem dX12_tried_154 : decode cX12_tried 154 = .ok (.iaload, 1) := by decide +kernel
theorem dX12_tried_155 : decode cX12_tried 155 = .ok (.istore_n 3, 1) := by decide +kernel
theorem dX12_tried_156 : decode cX12_tried 156 = .ok (.goto 8, 3) := by decide +kernel
theorem dX12_tried_159 : decode cX12_tried 159 = .ok (.aload_n 0, 1) := by decide +kernel
theorem dX12_tried_160 : decode cX12_tried 160 = .ok (.invokevirtual 312, 3) := by decide +kernel
theorem dX12_tried_163 : decode cX12_tried 163 = .ok (.istore_n 3, 1) := by decide +kernel
theorem dX12_tried_164 : decode cX12_tried 164 = .ok (.aload_n 0, 1) := by decide +kernel
theorem dX12_tried_165 : decode cX12_tried 165 = .ok (.getfield 13, 3) := by decide +kernel
theorem dX12_tried_168 : decode cX12_tried 168 = .ok (.aload_n 0, 1) := by decide +kernel
theorem dX12_tried_169 : decode cX12_tried 169 = .ok (.getfield 7, 3) := by decide +kernel
theorem dX12_tried_172 : decode cX12_tried 172 = .ok (.invokestatic 299, 3) := by decide +kernel
theorem dX12_tried_175 : decode cX12_tried 175 = .ok (.iload_n 3, 1) := by decide +kernel
theorem dX12_tried_176 : decode cX12_tried 176 = .ok (.ireturn, 1) := by decide +kernel
def md_X12_tried : List (Nat × Nat) := [(10, 29), (100, 0), (101, 0), (162, 0), (163, 0)]
set_option maxRecDepth 100000 in
set_option maxHeartbeats 4000000 in
theorem c_X12_tried {l : Launch} {D : q_D} (τ : q_T) (σ : q_V) (a0 : Nat) (x1 : Int32) (x2 : Int32) (hI : q_I τ σ) (tA0 : τ a0 = some (10, 1)) (hW : q_wf σ a0) : q_Ci l D yX12_tried cX12_tried 4 (some .int) 7 162 τ σ [.ref a0, .int x1, .int x2] (fun r σ1 => q_S md_X12_tried τ σ σ1 ∧ (q_r r (-2147483648) 2147483647) ∧ ((r.toInt, fx_N σ1) = f_X12_tried (fx_N σ) a0 x1.toInt x2.toInt) ∧ (∀ bn : Nat, σ a0 0 = .ref bn → fx_kr σ σ1 bn)) := by
  refine q_meti rfl (Nat.le_of_ble_eq_true rfl) (fun X hG hE => ?_)
  show q_O X 0 0 τ σ 0 [(0, .ref a0), (1, .int x1), (2, .int x2)] []
  have hS0 : q_S md_X12_tried τ σ σ := q_S.rf hI
  obtain ⟨Fv, hF⟩ : ∃ z, fx_eq z (f_X12_tried (fx_N σ) a0 x1.toInt x2.toInt) := ⟨_, fx_rf⟩
  have hF0 := hF
  unfold f_X12_tried at hF
  obtain ⟨q_1b, q_1f, q_1T⟩ := (hI a0 10 1 tA0 0 (by decide)).ref (k := 100) (n := 549) rfl
  replace hF := fx_R hF q_1f rfl
  obtain ⟨q_2b, q_2f, q_2T⟩ := (hI a0 10 1 tA0 1 (by decide)).ref (k := 101) (n := 549) rfl
  replace hF := fx_R hF q_2f rfl
  refine q_iload_n (pc := 0) hG dX12_tried_0 1 rfl ?_
  refine q_iconst (pc := 1) hG dX12_tried_1 ki_1 ?_
  refine q_sipush (pc := 2) hG dX12_tried_2 ks_600 ?_
  refine q_pS (pc := 5) [.int x1, .int 1, .int 600] [] hG (c_X12_in τ σ x1 1 600 hI) my_X12_in w778 w777 dX12_tried_5 rfl rfl (Nat.le_of_ble_eq_true rfl) (by decide) (fun v5 p5 => ?_)
  have fq5 := p5.2.1
  rewrite [tl_1, tl_600] at fq5
  replace hF := fx_E hF fq5
  refine q_if_eq (pc := 8) hG 21 dX12_tried_8 rfl ?_ ?_
  · intro c8
    replace hF := fx_eq1 hF rfl rfl c8
    refine q_iconst (pc := 21) hG dX12_tried_21 ki_m1 ?_
    exact q_irt hG hE dX12_tried_22 ⟨hS0, (q_r.mono rl_m1 (by decide)), (by rw [tl_m1]; exact fx_end hF hF0), (fun bn hbn => by cases hbn.symm.trans q_1f; exact fx_kr.rf)⟩
  intro c8
  have g_3 := p5.2.2.mp (q_one p5.1 c8)
  have r_4 := q_rge (q_r_any x1) rl_1 g_3.1
  replace hF := fx_eq2 hF rfl rfl c8
  refine q_iload_n (pc := 11) hG dX12_tried_11 2 rfl ?_
  refine q_iconst (pc := 12) hG dX12_tried_12 ki_0 ?_
  refine q_bipush (pc := 13) hG dX12_tried_13 kb_6 ?_
  refine q_pS (pc := 15) [.int x2, .int 0, .int 6] [] hG (c_X12_in τ σ x2 0 6 hI) my_X12_in w778 w777 dX12_tried_15 rfl rfl (Nat.le_of_ble_eq_true rfl) (by decide) (fun v15 p15 => ?_)
  have fq15 := p15.2.1
  rewrite [tl_0, tl_6] at fq15
  replace hF := fx_E hF fq15
  refine q_if_ne (pc := 18) hG 23 dX12_tried_18 rfl ?_ ?_
  · intro c18
    have g_5 := p15.2.2.mp (q_one p15.1 c18)
    have r_6 := q_rge (q_r_any x2) rl_0 g_5.1
    replace hF := fx_eq2 hF rfl rfl c18
    refine q_aload_n (pc := 23) hG dX12_tried_23 0 rfl ?_
    refine q_getV (pc := 24) (v := .ref q_1b) hG fl_X12_7 dX12_tried_24 tA0 q_1f ?_
    refine q_aload_n (pc := 27) hG dX12_tried_27 0 rfl ?_
    refine q_getV (pc := 28) (v := .ref q_2b) hG fl_X12_13 dX12_tried_28 tA0 q_2f ?_
    refine q_cSv (pc := 31) [.ref q_1b, .ref q_2b] [] hG (c_X12_copies_100_101 τ σ q_1b q_2b hI q_1T q_2T) my_X12_copies w1019 w1018 dX12_tried_31 rfl rfl (Nat.le_of_ble_eq_true rfl) (by decide) (fun s31 p31 => ?_)
    have w31 := hS0.trans p31.1 rfl
    replace hF := fx_S hF p31.2.1
    refine q_aload_n (pc := 34) hG dX12_tried_34 0 rfl ?_
    refine q_iload_n (pc := 35) hG dX12_tried_35 1 rfl ?_
    have r_7 := q_rle r_4 rl_600 g_3.2
    refine q_cVv (pc := 36) [.int x1] [] hG (c_X12_minutesGo τ s31 a0 x1 w31.1 tA0 r_7 (q_wf.keep hI w31.2 tA0 rfl hW)) my_X12_minutesGo mv_X12_minutesGo w957 dX12_tried_36 tA0 (by decide) rfl rfl (Nat.le_of_ble_eq_true rfl) (by decide) (fun s36 p36 => ?_)
    have w36 := w31.trans p36.1 rfl
    replace hF := fx_S hF p36.2.1
    refine q_iload_n (pc := 39) hG dX12_tried_39 2 rfl ?_
    have J164 : ∀ (p164_3 : Int32), (fx_eq Fv (kJ_X12_tried_164 (fx_N s36) q_2b q_1b p164_3.toInt)) → q_O X 0 0 τ s36 164 [(0, .ref a0), (3, .int p164_3)] [] := by
      intro p164_3 hF
      unfold kJ_X12_tried_164 at hF
      refine q_aload_n (pc := 164) hG dX12_tried_164 0 rfl ?_
      refine q_getV (pc := 165) (v := .ref q_2b) hG fl_X12_13 dX12_tried_165 tA0 (w36.same tA0 rfl q_2f) ?_
      refine q_aload_n (pc := 168) hG dX12_tried_168 0 rfl ?_
      refine q_getV (pc := 169) (v := .ref q_1b) hG fl_X12_7 dX12_tried_169 tA0 (w36.same tA0 rfl q_1f) ?_
      refine q_cSv (pc := 172) [.ref q_2b, .ref q_1b] [] hG (c_X12_copies_101_100 τ s36 q_2b q_1b w36.1 q_2T q_1T (fun j hj => by rw [p36.1.2 _ _ _ j q_2T rfl, p31.2.2 j hj]; exact hI _ _ _ q_1T j hj)) my_X12_copies w1019 w1018 dX12_tried_172 rfl rfl (Nat.le_of_ble_eq_true rfl) (by decide) (fun s172 p172 => ?_)
      have w172 := w36.trans p172.1 rfl
      replace hF := fx_S hF p172.2.1
      refine q_iload_n (pc := 175) hG dX12_tried_175 1 rfl ?_
      exact q_irt hG hE dX12_tried_176 ⟨w172, (q_r_any p164_3), (fx_end hF hF0), (fun bn hbn => by cases hbn.symm.trans q_1f; exact (fun j hj => by rw [p172.2.2 j (by omega), p36.1.2 _ _ _ j q_2T rfl, p31.2.2 j (by omega)]))⟩
    by_cases z40_0 : x2.toInt = 0
    · skip
      replace hF := fx_eq1 hF rfl rfl z40_0
      refine q_tsIn (pc := 40) 0 80 hG dX12_tried_40 z40_0 (by decide) rfl rfl ?_
      refine q_aload_n (pc := 80) hG dX12_tried_80 0 rfl ?_
      refine q_pV (pc := 81) [] [] hG (c_X12_paintedAll τ s36 a0 w36.1 tA0) my_X12_paintedAll mv_X12_paintedAll w1021 dX12_tried_81 tA0 (by decide) rfl rfl (Nat.le_of_ble_eq_true rfl) (by decide) (fun v81 p81 => ?_)
      replace hF := fx_E hF p81.2
      refine q_istore_n (pc := 84) [(3, .int v81), (0, .ref a0), (1, .int x1), (2, .int x2)] hG dX12_tried_84 (by decide) rfl ?_
      refine q_goto (pc := 85) 164 hG dX12_tried_85 rfl ?_
      refine q_lv [1, 0] rfl ?_
      exact J164 v81 hF
    by_cases z40_1 : x2.toInt = 1
    · skip
      replace hF := fx_eq2 hF rfl rfl z40_0
      replace hF := fx_eq1 hF rfl rfl z40_1
      refine q_tsIn (pc := 40) 1 88 hG dX12_tried_40 z40_1 (by decide) rfl rfl ?_
      refine q_aload_n (pc := 88) hG dX12_tried_88 0 rfl ?_
      refine q_pV (pc := 89) [] [] hG (c_X12_spoiltAll τ s36 a0 w36.1 tA0) my_X12_spoiltAll mv_X12_spoiltAll w1024 dX12_tried_89 tA0 (by decide) rfl rfl (Nat.le_of_ble_eq_true rfl) (by decide) (fun v89 p89 => ?_)
      replace hF := fx_E hF p89.2
      refine q_istore_n (pc := 92) [(3, .int v89), (0, .ref a0), (1, .int x1), (2, .int x2)] hG dX12_tried_92 (by decide) rfl ?_
      refine q_goto (pc := 93) 164 hG dX12_tried_93 rfl ?_
      refine q_lv [1, 0] rfl ?_
      exact J164 v89 hF
    by_cases z40_2 : x2.toInt = 2
    · skip
      replace hF := fx_eq2 hF rfl rfl z40_0
      replace hF := fx_eq2 hF rfl rfl z40_1
      replace hF := fx_eq1 hF rfl rfl z40_2
      refine q_tsIn (pc := 40) 2 96 hG dX12_tried_40 z40_2 (by decide) rfl rfl ?_
      refine q_aload_n (pc := 96) hG dX12_tried_96 0 rfl ?_
      refine q_pV (pc := 97) [] [] hG (c_X12_wetAll τ s36 a0 w36.1 tA0) my_X12_wetAll mv_X12_wetAll w1027 dX12_tried_97 tA0 (by decide) rfl rfl (Nat.le_of_ble_eq_true rfl) (by decide) (fun v97 p97 => ?_)
      replace hF := fx_E hF p97.2
      refine q_istore_n (pc := 100) [(3, .int v97), (0, .ref a0), (1, .int x1), (2, .int x2)] hG dX12_tried_100 (by decide) rfl ?_
      refine q_goto (pc := 101) 164 hG dX12_tried_101 rfl ?_
      refine q_lv [1, 0] rfl ?_
      exact J164 v97 hF
    by_cases z40_3 : x2.toInt = 3
    · skip
      replace hF := fx_eq2 hF rfl rfl z40_0
      replace hF := fx_eq2 hF rfl rfl z40_1
      replace hF := fx_eq2 hF rfl rfl z40_2
      replace hF := fx_eq1 hF rfl rfl z40_3
      refine q_tsIn (pc := 40) 3 104 hG dX12_tried_40 z40_3 (by decide) rfl rfl ?_
      refine q_aload_n (pc := 104) hG dX12_tried_104 0 rfl ?_
      refine q_pV (pc := 105) [] [] hG (c_X12_paintedAll τ s36 a0 w36.1 tA0) my_X12_paintedAll mv_X12_paintedAll w1021 dX12_tried_105 tA0 (by decide) rfl rfl (Nat.le_of_ble_eq_true rfl) (by decide) (fun v105 p105 => ?_)
      replace hF := fx_E hF p105.2
      refine q_aload_n (pc := 108) hG dX12_tried_108 0 rfl ?_
      refine q_getV (pc := 109) (v := .ref q_1b) hG fl_X12_7 dX12_tried_109 tA0 (w36.same tA0 rfl q_1f) ?_
      refine q_sipush (pc := 112) hG dX12_tried_112 ks_512 ?_
      refine q_naldc (pc := 115) (a1 := 8) (a2 := 64) hG dX12_tried_115 w36.1 q_1T (q_ix rl_512 (by decide)) rfl (fun v115 f115 g115 => ?_)
      replace hF := fx_I hF f115 (congrArg Int.toNat tl_512)
      have J131 : ∀ (p131_s0 : Int32), (q_r p131_s0 0 1) → (fx_eq Fv (kJ_X12_tried_131 (fx_N s36) q_2b q_1b p131_s0.toInt)) → q_O X 0 0 τ s36 131 [(0, .ref a0)] [.int p131_s0] := by
        intro p131_s0 r131_s0 hF
        unfold kJ_X12_tried_131 at hF
        refine q_istore_n (pc := 131) [(3, .int p131_s0), (0, .ref a0)] hG dX12_tried_131 (by decide) rfl ?_
        refine q_goto (pc := 132) 164 hG dX12_tried_132 rfl ?_
        refine q_lv [1, 0] rfl ?_
        exact J164 p131_s0 hF
      have J130 : (fx_eq Fv (kJ_X12_tried_130 (fx_N s36) q_2b q_1b)) → q_O X 0 0 τ s36 130 [(0, .ref a0)] [] := by
        intro hF
        unfold kJ_X12_tried_130 at hF
        refine q_iconst (pc := 130) hG dX12_tried_130 ki_0 ?_
        refine q_lv [0] rfl ?_
        exact J131 0 (q_r.mono rl_0 (by decide)) (by rw [tl_0]; exact hF)
      refine q_icmp_ne (pc := 116) hG 130 dX12_tried_116 rfl ?_ ?_
      · intro c116
        replace hF := fx_eq2 hF rfl rfl c116
        refine q_lv [0] rfl ?_
        exact J130 hF
      intro c116
      replace hF := fx_eq1 hF rfl rfl c116
      refine q_aload_n (pc := 119) hG dX12_tried_119 0 rfl ?_
      refine q_pV (pc := 120) [] [] hG (c_X12_wetAll τ s36 a0 w36.1 tA0) my_X12_wetAll mv_X12_wetAll w1027 dX12_tried_120 tA0 (by decide) rfl rfl (Nat.le_of_ble_eq_true rfl) (by decide) (fun v120 p120 => ?_)
      replace hF := fx_E hF p120.2
      refine q_if_ne (pc := 123) hG 130 dX12_tried_123 rfl ?_ ?_
      · intro c123
        replace hF := fx_eq2 hF rfl rfl c123
        refine q_lv [0] rfl ?_
        exact J130 hF
      intro c123
      replace hF := fx_eq1 hF rfl rfl c123
      refine q_iconst (pc := 126) hG dX12_tried_126 ki_1 ?_
      refine q_goto (pc := 127) 131 hG dX12_tried_127 rfl ?_
      refine q_lv [0] rfl ?_
      exact J131 1 (q_r.mono rl_1 (by decide)) (by rw [tl_1]; exact hF)
    by_cases z40_4 : x2.toInt = 4
    · skip
      replace hF := fx_eq2 hF rfl rfl z40_0
      replace hF := fx_eq2 hF rfl rfl z40_1
      replace hF := fx_eq2 hF rfl rfl z40_2
      replace hF := fx_eq2 hF rfl rfl z40_3
      replace hF := fx_eq1 hF rfl rfl z40_4
      refine q_tsIn (pc := 40) 4 135 hG dX12_tried_40 z40_4 (by decide) rfl rfl ?_
      refine q_aload_n (pc := 135) hG dX12_tried_135 0 rfl ?_
      refine q_getV (pc := 136) (v := .ref q_1b) hG fl_X12_7 dX12_tried_136 tA0 (w36.same tA0 rfl q_1f) ?_
      refine q_sipush (pc := 139) hG dX12_tried_139 ks_520 ?_
      refine q_nald3 (pc := 142) (a1 := -2) (a2 := 63) hG dX12_tried_142 w36.1 q_1T (q_ix rl_520 (by decide)) rfl (fun v142 f142 g142 n142 => ?_)
      replace hF := fx_I hF f142 (congrArg Int.toNat tl_520)
      refine q_istore_n (pc := 143) [(3, .int v142), (0, .ref a0), (1, .int x1), (2, .int x2)] hG dX12_tried_143 (by decide) rfl ?_
      refine q_goto (pc := 144) 164 hG dX12_tried_144 rfl ?_
      refine q_lv [1, 0] rfl ?_
      exact J164 v142 hF
    by_cases z40_5 : x2.toInt = 5
    · skip
      replace hF := fx_eq2 hF rfl rfl z40_0
      replace hF := fx_eq2 hF rfl rfl z40_1
      replace hF := fx_eq2 hF rfl rfl z40_2
      replace hF := fx_eq2 hF rfl rfl z40_3
      replace hF := fx_eq2 hF rfl rfl z40_4
      replace hF := fx_eq1 hF rfl rfl z40_5
      refine q_tsIn (pc := 40) 5 147 hG dX12_tried_40 z40_5 (by decide) rfl rfl ?_
      refine q_aload_n (pc := 147) hG dX12_tried_147 0 rfl ?_
      refine q_getV (pc := 148) (v := .ref q_1b) hG fl_X12_7 dX12_tried_148 tA0 (w36.same tA0 rfl q_1f) ?_
      refine q_sipush (pc := 151) hG dX12_tried_151 ks_521 ?_
      refine q_nald3 (pc := 154) (a1 := -2) (a2 := 63) hG dX12_tried_154 w36.1 q_1T (q_ix rl_521 (by decide)) rfl (fun v154 f154 g154 n154 => ?_)
      replace hF := fx_I hF f154 (congrArg Int.toNat tl_521)
      refine q_istore_n (pc := 155) [(3, .int v154), (0, .ref a0), (1, .int x1), (2, .int x2)] hG dX12_tried_155 (by decide) rfl ?_
      refine q_goto (pc := 156) 164 hG dX12_tried_156 rfl ?_
      refine q_lv [1, 0] rfl ?_
      exact J164 v154 hF
    replace hF := fx_eq2 hF rfl rfl z40_0
    replace hF := fx_eq2 hF rfl rfl z40_1
    replace hF := fx_eq2 hF rfl rfl z40_2
    replace hF := fx_eq2 hF rfl rfl z40_3
    replace hF := fx_eq2 hF rfl rfl z40_4
    replace hF := fx_eq2 hF rfl rfl z40_5
    have r_8 := q_rle r_6 rl_6 g_5.2
    refine q_tsOut (pc := 40) 159 hG dX12_tried_40 (by have q := r_8; unfold q_r at q; omega) rfl ?_
    refine q_aload_n (pc := 159) hG dX12_tried_159 0 rfl ?_
    refine q_pV (pc := 160) [] [] hG (c_X12_offAll τ s36 a0 w36.1 tA0) my_X12_offAll mv_X12_offAll w1030 dX12_tried_160 tA0 (by decide) rfl rfl (Nat.le_of_ble_eq_true rfl) (by decide) (fun v160 p160 => ?_)
    replace hF := fx_E hF p160.2
    refine q_istore_n (pc := 163) [(3, .int v160), (0, .ref a0), (1, .int x1), (2, .int x2)] hG dX12_tried_163 (by decide) rfl ?_
    refine q_lv [1, 0] rfl ?_
    exact J164 v160 hF
  intro c18
  replace hF := fx_eq1 hF rfl rfl c18
  refine q_iconst (pc := 21) hG dX12_tried_21 ki_m1 ?_
  exact q_irt hG hE dX12_tried_22 ⟨hS0, (q_r.mono rl_m1 (by decide)), (by rw [tl_m1]; exact fx_end hF hF0), (fun bn hbn => by cases hbn.symm.trans q_1f; exact fx_kr.rf)⟩
