/-! laid by wip/p2/build.py -/
theorem dX12_law_0 : decode cX12_law 0 = .ok (.iload_n 1, 1) := by decide +kernel
theorem dX12_law_1 : decode cX12_law 1 = .ok (.iconst 1, 1) := by decide +kernel
theorem dX12_law_2 : decode cX12_law 2 = .ok (.sipush 240, 3) := by decide +kernel
theorem dX12_law_5 : decode cX12_law 5 = .ok (.invokestatic 102, 3) := by decide +kernel
theorem dX12_law_8 : decode cX12_law 8 = .ok (.ifCond .eq 11, 3) := by decide +kernel
theorem dX12_law_11 : decode cX12_law 11 = .ok (.iload_n 1, 1) := by decide +kernel
theorem dX12_law_12 : decode cX12_law 12 = .ok (.aload_n 0, 1) := by decide +kernel
theorem dX12_law_13 : decode cX12_law 13 = .ok (.getfield 119, 3) := by decide +kernel
theorem dX12_law_16 : decode cX12_law 16 = .ok (.if_icmp .le 5, 3) := by decide +kernel
theorem dX12_law_19 : decode cX12_law 19 = .ok (.iconst (-1), 1) := by decide +kernel
theorem dX12_law_20 : decode cX12_law 20 = .ok (.ireturn, 1) := by decide +kernel
theorem dX12_law_21 : decode cX12_law 21 = .ok (.aload_n 0, 1) := by decide +kernel
theorem dX12_law_22 : decode cX12_law 22 = .ok (.iconst 0, 1) := by decide +kernel
theorem dX12_law_23 : decode cX12_law 23 = .ok (.putfield 126, 3) := by decide +kernel
theorem dX12_law_26 : decode cX12_law 26 = .ok (.aload_n 0, 1) := by decide +kernel
theorem dX12_law_27 : decode cX12_law 27 = .ok (.iload_n 1, 1) := by decide +kernel
theorem dX12_law_28 : decode cX12_law 28 = .ok (.putfield 129, 3) := by decide +kernel
theorem dX12_law_31 : decode cX12_law 31 = .ok (.aload_n 0, 1) := by decide +kernel
theorem dX12_law_32 : decode cX12_law 32 = .ok (.iconst 0, 1) := by decide +kernel
theorem dX12_law_33 : decode cX12_law 33 = .ok (.putfield 150, 3) := by decide +kernel
theorem dX12_law_36 : decode cX12_law 36 = .ok (.aload_n 0, 1) := by decide +kernel
theorem dX12_law_37 : decode cX12_law 37 = .ok (.iconst 0, 1) := by decide +kernel
theorem dX12_law_38 : decode cX12_law 38 = .ok (.putfield 224, 3) := by decide +kernel
theorem dX12_law_41 : decode cX12_law 41 = .ok (.aload_n 0, 1) := by decide +kernel
theorem dX12_law_42 : decode cX12_law 42 = .ok (.invokevirtual 230, 3) := by decide +kernel
theorem dX12_law_45 : decode cX12_law 45 = .ok (.istore_n 2, 1) := by decide +kernel
theorem dX12_law_46 : decode cX12_law 46 = .ok (.iload_n 2, 1) := by decide +kernel
theorem dX12_law_47 : decode cX12_law 47 = .ok (.ifCond .eq 39, 3) := by decide +kernel
theorem dX12_law_50 : decode cX12_law 50 = .ok (.aload_n 0, 1) := by decide +kernel
theorem dX12_law_51 : decode cX12_law 51 = .ok (.getfield 126, 3) := by decide +kernel
theorem dX12_law_54 : decode cX12_law 54 = .ok (.aload_n 0, 1) := by decide +kernel
theorem dX12_law_55 : decode cX12_law 55 = .ok (.getfield 129, 3) := by decide +kernel
theorem dX12_law_58 : decode cX12_law 58 = .ok (.if_icmp .ge 28, 3) := by decide +kernel
theorem dX12_law_61 : decode cX12_law 61 = .ok (.aload_n 0, 1) := by decide +kernel
theorem dX12_law_62 : decode cX12_law 62 = .ok (.bipush 59, 2) := by decide +kernel
theorem dX12_law_64 : decode cX12_law 64 = .ok (.invokevirtual 215, 3) := by decide +kernel
theorem dX12_law_67 : decode cX12_law 67 = .ok (.ifCond .eq 14, 3) := by decide +kernel
theorem dX12_law_70 : decode cX12_law 70 = .ok (.aload_n 0, 1) := by decide +kernel
theorem dX12_law_71 : decode cX12_law 71 = .ok (.invokevirtual 230, 3) := by decide +kernel
theorem dX12_law_74 : decode cX12_law 74 = .ok (.ifCond .eq 7, 3) := by decide +kernel
theorem dX12_law_77 : decode cX12_law 77 = .ok (.iconst 1, 1) := by decide +kernel
theorem dX12_law_78 : decode cX12_law 78 = .ok (.goto 4, 3) := by decide +kernel
theorem dX12_law_81 : decode cX12_law 81 = .ok (.iconst 0, 1) := by decide +kernel
theorem dX12_law_82 : decode cX12_law 82 = .ok (.istore_n 2, 1) := by decide +kernel
theorem dX12_law_83 : decode cX12_law 83 = .ok (.goto (-37), 3) := by decide +kernel
theorem dX12_law_86 : decode cX12_law 86 = .ok (.aload_n 0, 1) := by decide +kernel
theorem dX12_law_87 : decode cX12_law 87 = .ok (.iconst 0, 1) := by decide +kernel
theorem dX12_law_88 : decode cX12_law 88 = .ok (.putfield 119, 3) := by decide +kernel
theorem dX12_law_91 : decode cX12_law 91 = .ok (.iload_n 2, 1) := by decide +kernel
theorem dX12_law_92 : decode cX12_law 92 = .ok (.ifCond .ne 8, 3) := by decide +kernel
theorem dX12_law_95 : decode cX12_law 95 = .ok (.aload_n 0, 1) := by decide +kernel
theorem dX12_law_96 : decode cX12_law 96 = .ok (.getfield 136, 3) := by decide +kernel
theorem dX12_law_99 : decode cX12_law 99 = .ok (.ireturn, 1) := by decide +kernel
theorem dX12_law_100 : decode cX12_law 100 = .ok (.aload_n 0, 1) := by decide +kernel
theorem dX12_law_101 : decode cX12_law 101 = .ok (.aload_n 0, 1) := by decide +kernel
theorem dX12_law_102 : decode cX12_law 102 = .ok (.getfield 224, 3) := by decide +kernel
theorem dX12_law_105 : decode cX12_law 105 = .ok (.putfield 233, 3) := by decide +kernel
theorem dX12_law_108 : decode cX12_law 108 = .ok (.iconst 0, 1) := by decide +kernel
theorem dX12_law_109 : decode cX12_law 109 = .ok (.istore_n 3, 1) := by decide +kernel
theorem dX12_law_110 : decode cX12_law 110 = .ok (.iload_n 3, 1) := by decide +kernel
theorem dX12_law_111 : decode cX12_law 111 = .ok (.aload_n 0, 1) := by decide +kernel
theorem dX12_law_112 : decode cX12_law 112 = .ok (.getfield 150, 3) := by decide +kernel
theorem dX12_law_115 : decode cX12_law 115 = .ok (.if_icmp .ge 21, 3) := by decide +kernel
theorem dX12_law_118 : decode cX12_law 118 = .ok (.aload_n 0, 1) := by decide +kernel
theorem dX12_law_119 : decode cX12_law 119 = .ok (.getfield 41, 3) := by decide +kernel
theorem dX12_law_122 : decode cX12_law 122 = .ok (.iload_n 3, 1) := by decide +kernel
theorem dX12_law_123 : decode cX12_law 123 = .ok (.aload_n 0, 1) := by decide +kernel
theorem dX12_law_124 : decode cX12_law 124 = .ok (.getfield 23, 3) := by decide +kernel
theorem dX12_law_127 : decode cX12_law 127 = .ok (.iload_n 3, 1) := by decide +kernel
theorem dX12_law_128 : decode cX12_law 128 = .ok (.iaload, 1) := by decide +kernel
theorem dX12_law_129 : decode cX12_law 129 = .ok (.iastore, 1) := by decide +kernel
theorem dX12_law_130 : decode cX12_law 130 = .ok (.iinc 3 1, 3) := by decide +kernel
theorem dX12_law_133 : decode cX12_law 133 = .ok (.goto (-23), 3) := by decide +kernel
theorem dX12_law_136 : decode cX12_law 136 = .ok (.iconst 0, 1) := by decide +kernel
theorem dX12_law_137 : decode cX12_law 137 = .ok (.istore_n 3, 1) := by decide +kernel
theorem dX12_law_138 : decode cX12_law 138 = .ok (.iload_n 3, 1) := by decide +kernel
theorem dX12_law_139 : decode cX12_law 139 = .ok (.aload_n 0, 1) := by decide +kernel
theorem dX12_law_140 : decode cX12_law 140 = .ok (.getfield 224, 3) := by decide +kernel
theorem dX12_law_143 : decode cX12_law 143 = .ok (.if_icmp .ge 57, 3) := by decide +kernel
theorem dX12_law_146 : decode cX12_law 146 = .ok (.aload_n 0, 1) := by decide +kernel
theorem dX12_law_147 : decode cX12_law 147 = .ok (.getfield 44, 3) := by decide +kernel
theorem dX12_law_150 : decode cX12_law 150 = .ok (.iload_n 3, 1) := by decide +kernel
theorem dX12_law_151 : decode cX12_law 151 = .ok (.aload_n 0, 1) := by decide +kernel
theorem dX12_law_152 : decode cX12_law 152 = .ok (.getfield 29, 3) := by decide +kernel
theorem dX12_law_155 : decode cX12_law 155 = .ok (.iload_n 3, 1) := by decide +kernel
theorem dX12_law_156 : decode cX12_law 156 = .ok (.iaload, 1) := by decide +kernel
theorem dX12_law_157 : decode cX12_law 157 = .ok (.iastore, 1) := by decide +kernel
theorem dX12_law_158 : decode cX12_law 158 = .ok (.aload_n 0, 1) := by decide +kernel
theorem dX12_law_159 : decode cX12_law 159 = .ok (.getfield 47, 3) := by decide +kernel
theorem dX12_law_162 : decode cX12_law 162 = .ok (.iload_n 3, 1) := by decide +kernel
theorem dX12_law_163 : decode cX12_law 163 = .ok (.aload_n 0, 1) := by decide +kernel
theorem dX12_law_164 : decode cX12_law 164 = .ok (.getfield 32, 3) := by decide +kernel
theorem dX12_law_167 : decode cX12_law 167 = .ok (.iload_n 3, 1) := by decide +kernel
theorem dX12_law_168 : decode cX12_law 168 = .ok (.iaload, 1) := by decide +kernel
theorem dX12_law_169 : decode cX12_law 169 = .ok (.iastore, 1) := by decide +kernel
theorem dX12_law_170 : decode cX12_law 170 = .ok (.aload_n 0, 1) := by decide +kernel
theorem dX12_law_171 : decode cX12_law 171 = .ok (.getfield 50, 3) := by decide +kernel
theorem dX12_law_174 : decode cX12_law 174 = .ok (.iload_n 3, 1) := by decide +kernel
theorem dX12_law_175 : decode cX12_law 175 = .ok (.aload_n 0, 1) := by decide +kernel
theorem dX12_law_176 : decode cX12_law 176 = .ok (.getfield 35, 3) := by decide +kernel
theorem dX12_law_179 : decode cX12_law 179 = .ok (.iload_n 3, 1) := by decide +kernel
theorem dX12_law_180 : decode cX12_law 180 = .ok (.iaload, 1) := by decide +kernel
theorem dX12_law_181 : decode cX12_law 181 = .ok (.iastore, 1) := by decide +kernel
theorem dX12_law_182 : decode cX12_law 182 = .ok (.aload_n 0, 1) := by decide +kernel
theorem dX12_law_183 : decode cX12_law 183 = .ok (.getfield 53, 3) := by decide +kernel
theorem dX12_law_186 : decode cX12_law 186 = .ok (.iload_n 3, 1) := by decide +kernel
theorem dX12_law_187 : decode cX12_law 187 = .ok (.aload_n 0, 1) := by decide +kernel
theorem dX12_law_188 : decode cX12_law 188 = .ok (.getfield 38, 3) := by decide +kernel
theorem dX12_law_191 : decode cX12_law 191 = .ok (.iload_n 3, 1) := by decide +kernel
theorem dX12_law_192 : decode cX12_law 192 = .ok (.iaload, 1) := by decide +kernel
theorem dX12_law_193 : decode cX12_law 193 = .ok (.iastore, 1) := by decide +kernel
theorem dX12_law_194 : decode cX12_law 194 = .ok (.iinc 3 1, 3) := by decide +kernel
theorem dX12_law_197 : decode cX12_law 197 = .ok (.goto (-59), 3) := by decide +kernel
theorem dX12_law_200 : decode cX12_law 200 = .ok (.aload_n 0, 1) := by decide +kernel
theorem dX12_law_201 : decode cX12_law 201 = .ok (.getfield 224, 3) := by decide +kernel
theorem dX12_law_204 : decode cX12_law 204 = .ok (.ireturn, 1) := by decide +kernel
def md_X12_law : List (Nat × Nat) := [(10, 4), (10, 5), (10, 6), (10, 7), (10, 8), (10, 9), (10, 10), (10, 11), (10, 12), (10, 13), (150, 0), (151, 0), (152, 0), (153, 0), (154, 0), (155, 0), (156, 0), (157, 0), (158, 0), (159, 0), (160, 0)]
set_option maxRecDepth 100000 in
set_option maxHeartbeats 4000000 in
theorem c_X12_law {l : Launch} {D : q_D} (τ : q_T) (σ : q_V) (a0 : Nat) (x1 : Int32) (hI : q_I τ σ) (tA0 : τ a0 = some (10, 1)) (hW : q_wf σ a0) : q_Ci l D yX12_law cX12_law 4 (some .int) 8 166 τ σ [.ref a0, .int x1] (fun r σ1 => q_S md_X12_law τ σ σ1 ∧ (q_r r (-2147483648) 2147483647) ∧ ((r.toInt, fx_N σ1) = f_X12_law (fx_N σ) a0 x1.toInt) ∧ (∀ t : Int32, σ a0 4 = .int t → ∃ z : Int32, σ1 a0 4 = .int z ∧ (((1 ≤ x1.toInt ∧ x1.toInt ≤ 240) ∧ x1.toInt ≤ t.toInt) → z.toInt = 0) ∧ (¬ ((1 ≤ x1.toInt ∧ x1.toInt ≤ 240) ∧ x1.toInt ≤ t.toInt) → z.toInt = t.toInt)) ∧ (q_wf σ1 a0)) := by
  refine q_meti rfl (Nat.le_of_ble_eq_true rfl) (fun X hG hE => ?_)
  show q_O X 0 0 τ σ 0 [(0, .ref a0), (1, .int x1)] []
  have hS0 : q_S md_X12_law τ σ σ := q_S.rf hI
  obtain ⟨Fv, hF⟩ : ∃ z, fx_eq z (f_X12_law (fx_N σ) a0 x1.toInt) := ⟨_, fx_rf⟩
  have hF0 := hF
  unfold f_X12_law at hF
  obtain ⟨bs, hbs, Tbs⟩ := (hI a0 10 1 tA0 15 (by decide)).ref (k := 150) (n := 260) rfl
  obtain ⟨bw, hbw, Tbw⟩ := (hI a0 10 1 tA0 16 (by decide)).ref (k := 151) (n := 260) rfl
  obtain ⟨bf, hbf, Tbf⟩ := (hI a0 10 1 tA0 18 (by decide)).ref (k := 153) (n := 16) rfl
  obtain ⟨bh, hbh, Tbh⟩ := (hI a0 10 1 tA0 19 (by decide)).ref (k := 154) (n := 16) rfl
  obtain ⟨bt, hbt, Tbt⟩ := (hI a0 10 1 tA0 20 (by decide)).ref (k := 155) (n := 16) rfl
  obtain ⟨bc, hbc, Tbc⟩ := (hI a0 10 1 tA0 21 (by decide)).ref (k := 156) (n := 260) rfl
  obtain ⟨bcf, hbcf, Tbcf⟩ := (hI a0 10 1 tA0 23 (by decide)).ref (k := 158) (n := 16) rfl
  obtain ⟨bch, hbch, Tbch⟩ := (hI a0 10 1 tA0 24 (by decide)).ref (k := 159) (n := 16) rfl
  obtain ⟨bct, hbct, Tbct⟩ := (hI a0 10 1 tA0 25 (by decide)).ref (k := 160) (n := 16) rfl
  obtain ⟨q_1v, q_1f, q_1r⟩ := (hI a0 10 1 tA0 4 (by decide)).int ff_10_4
  replace hF := fx_I hF q_1f rfl
  replace hF := fx_R hF hbs rfl
  replace hF := fx_R hF hbw rfl
  replace hF := fx_R hF hbf rfl
  replace hF := fx_R hF hbh rfl
  replace hF := fx_R hF hbt rfl
  replace hF := fx_R hF hbc rfl
  replace hF := fx_R hF hbcf rfl
  replace hF := fx_R hF hbch rfl
  replace hF := fx_R hF hbct rfl
  refine q_iload_n (pc := 0) hG dX12_law_0 1 rfl ?_
  refine q_iconst (pc := 1) hG dX12_law_1 ki_1 ?_
  refine q_sipush (pc := 2) hG dX12_law_2 ks_240 ?_
  refine q_pS (pc := 5) [.int x1, .int 1, .int 240] [] hG (c_X12_in τ σ x1 1 240 hI) my_X12_in w778 w777 dX12_law_5 rfl rfl (Nat.le_of_ble_eq_true rfl) (by decide) (fun v5 p5 => ?_)
  have fq5 := p5.2.1
  rewrite [tl_1, tl_240] at fq5
  replace hF := fx_E hF fq5
  refine q_if_eq (pc := 8) hG 19 dX12_law_8 rfl ?_ ?_
  · intro c8
    replace hF := fx_eq1 hF rfl rfl c8
    refine q_iconst (pc := 19) hG dX12_law_19 ki_m1 ?_
    have r_2 := q_zeq c8
    exact q_irt hG hE dX12_law_20 ⟨hS0, (q_r.mono rl_m1 (by decide)), (by rw [tl_m1]; exact fx_end hF hF0), (fun t e => by cases e.symm.trans q_1f; exact ⟨q_1v, q_1f, (by have o0 := p5.2.2; have o1 := c8; have o2 := q_1r; have o3 := r_2; have l4 := tl_m1; have l5 := tl_1; have l6 := tl_240; unfold q_r at o2 o3; omega)⟩), hW⟩
  intro c8
  have g_3 := p5.2.2.mp (q_one p5.1 c8)
  have r_4 := q_rge (q_r_any x1) rl_1 g_3.1
  replace hF := fx_eq2 hF rfl rfl c8
  refine q_iload_n (pc := 11) hG dX12_law_11 1 rfl ?_
  refine q_aload_n (pc := 12) hG dX12_law_12 0 rfl ?_
  refine q_getV (pc := 13) (v := .int q_1v) hG fl_X12_119 dX12_law_13 tA0 q_1f ?_
  refine q_icmp_le (pc := 16) hG 21 dX12_law_16 rfl ?_ ?_
  · intro c16
    have r_5 := q_rle r_4 rl_240 g_3.2
    replace hF := fx_lt2 hF rfl rfl c16
    refine q_aload_n (pc := 21) hG dX12_law_21 0 rfl ?_
    refine q_iconst (pc := 22) hG dX12_law_22 ki_0 ?_
    refine q_putI (pc := 23) hG fl_X12_126 dX12_law_23 hS0 tA0 ff_10_5 rl_0 (by decide) rfl (fun s23 u23 w23 => ?_)
    replace hF := fx_P hF u23 rfl tl_0
    have m23 : s23 a0 5 = .int 0 := by rw [u23]; exact q_up_same
    refine q_aload_n (pc := 26) hG dX12_law_26 0 rfl ?_
    refine q_iload_n (pc := 27) hG dX12_law_27 1 rfl ?_
    refine q_putI (pc := 28) hG fl_X12_129 dX12_law_28 w23 tA0 ff_10_6 r_5 (by decide) rfl (fun s28 u28 w28 => ?_)
    replace hF := fx_P hF u28 rfl rfl
    have m28 : s28 a0 6 = .int x1 := by rw [u28]; exact q_up_same
    refine q_aload_n (pc := 31) hG dX12_law_31 0 rfl ?_
    refine q_iconst (pc := 32) hG dX12_law_32 ki_0 ?_
    refine q_putI (pc := 33) hG fl_X12_150 dX12_law_33 w28 tA0 ff_10_10 rl_0 (by decide) rfl (fun s33 u33 w33 => ?_)
    replace hF := fx_P hF u33 rfl tl_0
    have m33 : s33 a0 10 = .int 0 := by rw [u33]; exact q_up_same
    refine q_aload_n (pc := 36) hG dX12_law_36 0 rfl ?_
    refine q_iconst (pc := 37) hG dX12_law_37 ki_0 ?_
    refine q_putI (pc := 38) hG fl_X12_224 dX12_law_38 w33 tA0 ff_10_12 rl_0 (by decide) rfl (fun s38 u38 w38 => ?_)
    replace hF := fx_P hF u38 rfl tl_0
    have m38 : s38 a0 12 = .int 0 := by rw [u38]; exact q_up_same
    obtain ⟨q_6v, q_6f, q_6r⟩ := (w38.1 a0 10 1 tA0 11 (by decide)).int ff_10_11
    replace hF := fx_I hF q_6f rfl
    refine q_aload_n (pc := 41) hG dX12_law_41 0 rfl ?_
    refine q_cVi (pc := 42) [] [] hG (c_X12_readsClause τ s38 a0 w38.1 tA0 bs bw (w38.same tA0 rfl hbs) (w38.same tA0 rfl hbw) Tbs Tbw (0 : Int32) q_6v (0 : Int32) (by rw [u38]; exact (q_up_else (Or.inr (by decide))).trans m33) q_6f (by rw [u38]; exact (q_up_else (Or.inr (by decide))).trans (by rw [u33]; exact (q_up_else (Or.inr (by decide))).trans (by rw [u28]; exact (q_up_else (Or.inr (by decide))).trans m23))) (by have l0 := tl_0; omega) bf bh bt (w38.same tA0 rfl hbf) (w38.same tA0 rfl hbh) (w38.same tA0 rfl hbt) Tbf Tbh Tbt (0 : Int32) m38 (q_r.mono rl_0 (by decide)) (q_sd.new (by decide))) my_X12_readsClause mv_X12_readsClause w901 dX12_law_42 tA0 (by decide) rfl rfl (Nat.le_of_ble_eq_true rfl) (by decide) (fun v42 s42 p42 => ?_)
    have w42 := w38.trans p42.1 rfl
    replace hF := fx_C hF p42.2.2.1
    refine q_istore_n (pc := 45) [(2, .int v42), (0, .ref a0), (1, .int x1)] hG dX12_law_45 (by decide) rfl ?_
    have J46 : ∀ (n46 : Nat) (p46_2 : Int32) (σ46 : q_V) (cL46 : Int32) (wL46 : Int32) (pL46 : Int32) (mL46 : Int32) (PL46 : Int), (q_r p46_2 0 1) → (q_S md_X12_law τ σ σ46) → ((σ46 a0 10 = .int cL46 ∧ σ46 a0 11 = .int wL46 ∧ σ46 a0 5 = .int pL46 ∧ σ46 a0 12 = .int mL46) ∧ (q_r cL46 0 260 ∧ q_r wL46 0 260 ∧ q_r pL46 0 260 ∧ q_r mL46 0 16) ∧ q_wf σ46 a0 ∧ (0 ≤ PL46 ∧ PL46 ≤ 261 ∧ (p46_2.toInt = 1 → PL46 ≤ pL46.toInt)) ∧ (p46_2.toInt = 1 → q_x (((0 ≤ cL46.toInt ∧ cL46.toInt ≤ pL46.toInt) ∧ pL46.toInt ≤ 260) ∧ q_sd (σ46 bs) (σ46 bf) (σ46 bh) (σ46 bt) mL46.toInt cL46.toInt))) → (fx_eq Fv (kL_X12_law_46 a0 bs bc bf bcf bh bch bt bct n46 p46_2.toInt (fx_N σ46) cL46.toInt wL46.toInt pL46.toInt mL46.toInt)) → ((261 - PL46).toNat < n46) → q_O X 0 0 τ σ46 46 [(0, .ref a0), (2, .int p46_2)] [] := by
      intro n46
      induction n46 with
      | zero => intro p46_2 σ46 cL46 wL46 pL46 mL46 PL46 r46_2 hS46 iL46 hF hm46; exact absurd hm46 (Nat.not_lt_zero _)
      | succ n46 ih46 =>
        intro p46_2 σ46 cL46 wL46 pL46 mL46 PL46 r46_2 hS46 iL46 hF hm46
        replace hF := (show fx_eq Fv (kB_X12_law_46 (kL_X12_law_46 a0 bs bc bf bcf bh bch bt bct n46) a0 bs bc bf bcf bh bch bt bct p46_2.toInt (fx_N σ46) cL46.toInt wL46.toInt pL46.toInt mL46.toInt) from hF)
        unfold kB_X12_law_46 at hF
        refine q_iload_n (pc := 46) hG dX12_law_46 1 rfl ?_
        have J86 : (fx_eq Fv (kJ_X12_law_86 (fx_N σ46) a0 p46_2.toInt mL46.toInt cL46.toInt bs bc bf bcf bh bch bt bct)) → q_O X 0 0 τ σ46 86 [(0, .ref a0), (2, .int p46_2)] [] := by
          intro hF
          unfold kJ_X12_law_86 at hF
          refine q_aload_n (pc := 86) hG dX12_law_86 0 rfl ?_
          refine q_iconst (pc := 87) hG dX12_law_87 ki_0 ?_
          refine q_putI (pc := 88) hG fl_X12_119 dX12_law_88 hS46 tA0 ff_10_4 rl_0 (by decide) rfl (fun s88 u88 w88 => ?_)
          replace hF := fx_P hF u88 rfl tl_0
          have m88 : s88 a0 4 = .int 0 := by rw [u88]; exact q_up_same
          refine q_iload_n (pc := 91) hG dX12_law_91 1 rfl ?_
          refine q_if_ne (pc := 92) hG 100 dX12_law_92 rfl ?_ ?_
          · intro c92
            have g_7 := iL46.2.2.2.2 (q_one r46_2 c92)
            obtain ⟨lc46, sdL46⟩ := g_7
            replace hF := fx_eq2 hF rfl rfl c92
            refine q_aload_n (pc := 100) hG dX12_law_100 0 rfl ?_
            refine q_aload_n (pc := 101) hG dX12_law_101 0 rfl ?_
            refine q_getV (pc := 102) (v := .int mL46) hG fl_X12_224 dX12_law_102 tA0 (by rw [u88]; exact (q_up_else (Or.inr (by decide))).trans iL46.1.2.2.2) ?_
            refine q_putI (pc := 105) hG fl_X12_233 dX12_law_105 w88 tA0 ff_10_13 iL46.2.1.2.2.2 (by decide) rfl (fun s105 u105 w105 => ?_)
            replace hF := fx_P hF u105 rfl rfl
            have m105 : s105 a0 13 = .int mL46 := by rw [u105]; exact q_up_same
            refine q_iconst (pc := 108) hG dX12_law_108 ki_0 ?_
            refine q_istore_n (pc := 109) [(3, .int 0), (0, .ref a0), (2, .int p46_2)] hG dX12_law_109 (by decide) rfl ?_
            have J110 : ∀ (n110 : Nat) (p110_3 : Int32) (σ110 : q_V), (q_r p110_3 0 260) → (q_S md_X12_law τ σ σ110) → ((σ110 bs = s105 bs ∧ σ110 bf = s105 bf ∧ σ110 bh = s105 bh ∧ σ110 bt = s105 bt) ∧ (σ110 a0 10 = .int cL46 ∧ σ110 a0 12 = .int mL46 ∧ σ110 a0 13 = .int mL46) ∧ (∀ j : Nat, (j : Int) < p110_3.toInt → σ110 bc j = s105 bs j)) → (p110_3.toInt ≤ cL46.toInt) → (σ110 a0 4 = .int 0) → (fx_eq Fv (kL_X12_law_110 cL46.toInt bs bc mL46.toInt a0 bf bcf bh bch bt bct n110 p110_3.toInt (fx_N σ110))) → ((260 - p110_3.toInt).toNat < n110) → q_O X 0 0 τ σ110 110 [(0, .ref a0), (3, .int p110_3)] [] := by
              intro n110
              induction n110 with
              | zero => intro p110_3 σ110 r110_3 hS110 iC110 iK110 iTP110 hF hm110; exact absurd hm110 (Nat.not_lt_zero _)
              | succ n110 ih110 =>
                intro p110_3 σ110 r110_3 hS110 iC110 iK110 iTP110 hF hm110
                replace hF := (show fx_eq Fv (kB_X12_law_110 (kL_X12_law_110 cL46.toInt bs bc mL46.toInt a0 bf bcf bh bch bt bct n110) cL46.toInt bs bc mL46.toInt a0 bf bcf bh bch bt bct p110_3.toInt (fx_N σ110)) from hF)
                unfold kB_X12_law_110 at hF
                refine q_iload_n (pc := 110) hG dX12_law_110 1 rfl ?_
                refine q_aload_n (pc := 111) hG dX12_law_111 0 rfl ?_
                refine q_getV (pc := 112) (v := .int cL46) hG fl_X12_150 dX12_law_112 tA0 iC110.2.1.1 ?_
                refine q_icmp_ge (pc := 115) hG 136 dX12_law_115 rfl ?_ ?_
                · intro c115
                  replace hF := fx_lt2 hF rfl rfl c115
                  refine q_iconst (pc := 136) hG dX12_law_136 ki_0 ?_
                  refine q_istore_n (pc := 137) [(3, .int 0), (0, .ref a0)] hG dX12_law_137 (by decide) rfl ?_
                  have J138 : ∀ (n138 : Nat) (p138_3 : Int32) (σ138 : q_V), (q_r p138_3 0 16) → (q_S md_X12_law τ σ σ138) → ((σ138 bs = s105 bs ∧ σ138 bf = s105 bf ∧ σ138 bh = s105 bh ∧ σ138 bt = s105 bt) ∧ (σ138 a0 10 = .int cL46 ∧ σ138 a0 12 = .int mL46 ∧ σ138 a0 13 = .int mL46) ∧ (∀ j : Nat, (j : Int) < cL46.toInt → σ138 bc j = s105 bs j) ∧ (∀ j : Nat, (j : Int) < p138_3.toInt → σ138 bcf j = s105 bf j) ∧ (∀ j : Nat, (j : Int) < p138_3.toInt → σ138 bch j = s105 bh j) ∧ (∀ j : Nat, (j : Int) < p138_3.toInt → σ138 bct j = s105 bt j)) → (p138_3.toInt ≤ mL46.toInt) → (σ138 a0 4 = .int 0) → (fx_eq Fv (kL_X12_law_138 mL46.toInt a0 bf bcf bh bch bt bct n138 p138_3.toInt (fx_N σ138))) → ((16 - p138_3.toInt).toNat < n138) → q_O X 0 0 τ σ138 138 [(0, .ref a0), (3, .int p138_3)] [] := by
                    intro n138
                    induction n138 with
                    | zero => intro p138_3 σ138 r138_3 hS138 iC138 iK138 iTP138 hF hm138; exact absurd hm138 (Nat.not_lt_zero _)
                    | succ n138 ih138 =>
                      intro p138_3 σ138 r138_3 hS138 iC138 iK138 iTP138 hF hm138
                      replace hF := (show fx_eq Fv (kB_X12_law_138 (kL_X12_law_138 mL46.toInt a0 bf bcf bh bch bt bct n138) mL46.toInt a0 bf bcf bh bch bt bct p138_3.toInt (fx_N σ138)) from hF)
                      unfold kB_X12_law_138 at hF
                      refine q_iload_n (pc := 138) hG dX12_law_138 1 rfl ?_
                      refine q_aload_n (pc := 139) hG dX12_law_139 0 rfl ?_
                      refine q_getV (pc := 140) (v := .int mL46) hG fl_X12_224 dX12_law_140 tA0 iC138.2.1.2.1 ?_
                      refine q_icmp_ge (pc := 143) hG 200 dX12_law_143 rfl ?_ ?_
                      · intro c143
                        replace hF := fx_lt2 hF rfl rfl c143
                        refine q_aload_n (pc := 200) hG dX12_law_200 0 rfl ?_
                        refine q_getV (pc := 201) (v := .int mL46) hG fl_X12_224 dX12_law_201 tA0 iC138.2.1.2.1 ?_
                        have r_8 := q_rge q_1r r_5 c16
                        have r_9 := q_neL (c := 1) p5.1 c8 (by decide)
                        have r_10 := q_neL (c := 1) r46_2 c92 (by decide)
                        exact q_irt hG hE dX12_law_204 ⟨hS138, (q_r.mono iL46.2.1.2.2.2 (by decide)), (fx_end hF hF0), (fun t e => by cases e.symm.trans q_1f; exact ⟨0, iTP138, (by have o0 := p5.2.2; have o1 := c8; have o2 := g_3.1; have o3 := g_3.2; have o4 := c16; have o5 := iK138; have o6 := c143; have o7 := iL46.2.1.2.2.2; have o8 := r138_3; have o9 := r_8; have o10 := r_9; have o11 := r_5; have l12 := tl_0; have l13 := tl_1; have l14 := tl_240; unfold q_r at o7 o8 o9 o10 o11; omega)⟩), q_sd.wf (c := cL46) (show q_sd (s105 bs) (s105 bf) (s105 bh) (s105 bt) mL46.toInt cL46.toInt from (by rw [((by rw [u105]; exact q_upK Tbs tA0 (by decide) : s105 bs = s88 bs).trans (by rw [u88]; exact q_upK Tbs tA0 (by decide) : s88 bs = σ46 bs)), ((by rw [u105]; exact q_upK Tbf tA0 (by decide) : s105 bf = s88 bf).trans (by rw [u88]; exact q_upK Tbf tA0 (by decide) : s88 bf = σ46 bf)), ((by rw [u105]; exact q_upK Tbh tA0 (by decide) : s105 bh = s88 bh).trans (by rw [u88]; exact q_upK Tbh tA0 (by decide) : s88 bh = σ46 bh)), ((by rw [u105]; exact q_upK Tbt tA0 (by decide) : s105 bt = s88 bt).trans (by rw [u88]; exact q_upK Tbt tA0 (by decide) : s88 bt = σ46 bt))]; exact sdL46)) (by have o0 := lc46; have o1 := iK110; have o2 := c115; have o3 := iL46.2.2.2.1; have o4 := c92; have o5 := iL46.2.1.1; have o6 := r110_3; have o7 := r_10; have o8 := iL46.2.1.2.2.1; unfold q_r at o5 o6 o7 o8; omega) (hS138.same tA0 rfl hbc) (hS138.same tA0 rfl hbcf) (hS138.same tA0 rfl hbch) (hS138.same tA0 rfl hbct) iC138.2.1.2.2 iC138.2.2.1 (fun j hj => iC138.2.2.2.1 j (by have o0 := iK138; have o1 := c143; have o2 := iL46.2.1.2.2.2; have o3 := r138_3; unfold q_r at o2 o3; omega)) (fun j hj => iC138.2.2.2.2.1 j (by have o0 := iK138; have o1 := c143; have o2 := iL46.2.1.2.2.2; have o3 := r138_3; unfold q_r at o2 o3; omega)) (fun j hj => iC138.2.2.2.2.2 j (by have o0 := iK138; have o1 := c143; have o2 := iL46.2.1.2.2.2; have o3 := r138_3; unfold q_r at o2 o3; omega))⟩
                      intro c143
                      replace hF := fx_lt1 hF rfl rfl c143
                      refine q_aload_n (pc := 146) hG dX12_law_146 0 rfl ?_
                      refine q_getR (pc := 147) (k2 := 157) (n2 := 16) hG fl_X12_44 dX12_law_147 hS138.1 tA0 ff_10_22 (fun b147 f147 T147 => ?_)
                      replace hF := fx_R hF f147 rfl
                      have f_11 := (hS138.2 _ _ _ _ tA0 rfl).symm.trans f147
                      refine q_iload_n (pc := 150) hG dX12_law_150 1 rfl ?_
                      refine q_aload_n (pc := 151) hG dX12_law_151 0 rfl ?_
                      refine q_getR (pc := 152) (k2 := 152) (n2 := 16) hG fl_X12_29 dX12_law_152 hS138.1 tA0 ff_10_17 (fun b152 f152 T152 => ?_)
                      replace hF := fx_R hF f152 rfl
                      have f_12 := (hS138.2 _ _ _ _ tA0 rfl).symm.trans f152
                      refine q_iload_n (pc := 155) hG dX12_law_155 1 rfl ?_
                      have r_13 := q_rlt r138_3 iL46.2.1.2.2.2 c143 15 (by decide)
                      refine q_iald (pc := 156) hG dX12_law_156 hS138.1 ai_152 T152 (q_ix r_13 (by decide)) (fun v156 f156 g156 => ?_)
                      replace hF := fx_I hF f156 rfl
                      refine q_iast (pc := 157) hG dX12_law_157 hS138 ai_157 T147 (q_ix r_13 (by decide)) g156 (by decide) rfl (fun s157 u157 w157 => ?_)
                      replace hF := fx_P hF u157 rfl rfl
                      have m157 : s157 b147 p138_3.toInt.toNat = .int v156 := by rw [u157]; exact q_up_same
                      refine q_aload_n (pc := 158) hG dX12_law_158 0 rfl ?_
                      refine q_getV (pc := 159) (v := .ref bcf) hG fl_X12_47 dX12_law_159 tA0 (w157.same tA0 rfl hbcf) ?_
                      refine q_iload_n (pc := 162) hG dX12_law_162 1 rfl ?_
                      refine q_aload_n (pc := 163) hG dX12_law_163 0 rfl ?_
                      refine q_getV (pc := 164) (v := .ref bf) hG fl_X12_32 dX12_law_164 tA0 (w157.same tA0 rfl hbf) ?_
                      refine q_iload_n (pc := 167) hG dX12_law_167 1 rfl ?_
                      refine q_iald (pc := 168) hG dX12_law_168 w157.1 ai_153 Tbf (q_ix r_13 (by decide)) (fun v168 f168 g168 => ?_)
                      replace hF := fx_I hF f168 rfl
                      refine q_iast (pc := 169) hG dX12_law_169 w157 ai_158 Tbcf (q_ix r_13 (by decide)) g168 (by decide) rfl (fun s169 u169 w169 => ?_)
                      replace hF := fx_P hF u169 rfl rfl
                      have m169 : s169 bcf p138_3.toInt.toNat = .int v168 := by rw [u169]; exact q_up_same
                      refine q_aload_n (pc := 170) hG dX12_law_170 0 rfl ?_
                      refine q_getV (pc := 171) (v := .ref bch) hG fl_X12_50 dX12_law_171 tA0 (w169.same tA0 rfl hbch) ?_
                      refine q_iload_n (pc := 174) hG dX12_law_174 1 rfl ?_
                      refine q_aload_n (pc := 175) hG dX12_law_175 0 rfl ?_
                      refine q_getV (pc := 176) (v := .ref bh) hG fl_X12_35 dX12_law_176 tA0 (w169.same tA0 rfl hbh) ?_
                      refine q_iload_n (pc := 179) hG dX12_law_179 1 rfl ?_
                      refine q_iald (pc := 180) hG dX12_law_180 w169.1 ai_154 Tbh (q_ix r_13 (by decide)) (fun v180 f180 g180 => ?_)
                      replace hF := fx_I hF f180 rfl
                      refine q_iast (pc := 181) hG dX12_law_181 w169 ai_159 Tbch (q_ix r_13 (by decide)) g180 (by decide) rfl (fun s181 u181 w181 => ?_)
                      replace hF := fx_P hF u181 rfl rfl
                      have m181 : s181 bch p138_3.toInt.toNat = .int v180 := by rw [u181]; exact q_up_same
                      refine q_aload_n (pc := 182) hG dX12_law_182 0 rfl ?_
                      refine q_getV (pc := 183) (v := .ref bct) hG fl_X12_53 dX12_law_183 tA0 (w181.same tA0 rfl hbct) ?_
                      refine q_iload_n (pc := 186) hG dX12_law_186 1 rfl ?_
                      refine q_aload_n (pc := 187) hG dX12_law_187 0 rfl ?_
                      refine q_getV (pc := 188) (v := .ref bt) hG fl_X12_38 dX12_law_188 tA0 (w181.same tA0 rfl hbt) ?_
                      refine q_iload_n (pc := 191) hG dX12_law_191 1 rfl ?_
                      refine q_iald (pc := 192) hG dX12_law_192 w181.1 ai_155 Tbt (q_ix r_13 (by decide)) (fun v192 f192 g192 => ?_)
                      replace hF := fx_I hF f192 rfl
                      refine q_iast (pc := 193) hG dX12_law_193 w181 ai_160 Tbct (q_ix r_13 (by decide)) g192 (by decide) rfl (fun s193 u193 w193 => ?_)
                      replace hF := fx_P hF u193 rfl rfl
                      have m193 : s193 bct p138_3.toInt.toNat = .int v192 := by rw [u193]; exact q_up_same
                      obtain ⟨v194, e194⟩ : ∃ z : Int32, z = p138_3 + Int32.ofInt 1 := ⟨_, rfl⟩
                      have h194 := q_incN (lo := 1) (hi := 16) r_13 (by decide) (by decide) e194
                      replace hF := fx_add hF rfl rfl h194.1
                      refine q_iinc (pc := 194) [(3, .int v194), (0, .ref a0)] hG dX12_law_194 1 rfl e194 (by decide) rfl ?_
                      refine q_goto (pc := 197) 138 hG dX12_law_197 rfl ?_
                      refine q_lv [1, 0] rfl ?_
                      have r_14 := q_rgt iL46.2.1.2.2.2 r138_3 c143 1 (by decide)
                      exact ih138 v194 s193 (q_r.mono h194.2 (by decide)) w193 ⟨⟨(((by rw [u193]; exact q_upK Tbs Tbct (by decide) : s193 bs = s181 bs).trans ((by rw [u181]; exact q_upK Tbs Tbch (by decide) : s181 bs = s169 bs).trans ((by rw [u169]; exact q_upK Tbs Tbcf (by decide) : s169 bs = s157 bs).trans (by rw [u157]; exact q_upK Tbs T147 (by decide) : s157 bs = σ138 bs)))).trans iC138.1.1), (((by rw [u193]; exact q_upK Tbf Tbct (by decide) : s193 bf = s181 bf).trans ((by rw [u181]; exact q_upK Tbf Tbch (by decide) : s181 bf = s169 bf).trans ((by rw [u169]; exact q_upK Tbf Tbcf (by decide) : s169 bf = s157 bf).trans (by rw [u157]; exact q_upK Tbf T147 (by decide) : s157 bf = σ138 bf)))).trans iC138.1.2.1), (((by rw [u193]; exact q_upK Tbh Tbct (by decide) : s193 bh = s181 bh).trans ((by rw [u181]; exact q_upK Tbh Tbch (by decide) : s181 bh = s169 bh).trans ((by rw [u169]; exact q_upK Tbh Tbcf (by decide) : s169 bh = s157 bh).trans (by rw [u157]; exact q_upK Tbh T147 (by decide) : s157 bh = σ138 bh)))).trans iC138.1.2.2.1), (((by rw [u193]; exact q_upK Tbt Tbct (by decide) : s193 bt = s181 bt).trans ((by rw [u181]; exact q_upK Tbt Tbch (by decide) : s181 bt = s169 bt).trans ((by rw [u169]; exact q_upK Tbt Tbcf (by decide) : s169 bt = s157 bt).trans (by rw [u157]; exact q_upK Tbt T147 (by decide) : s157 bt = σ138 bt)))).trans iC138.1.2.2.2)⟩, ⟨(by rw [u193]; exact (q_keepK tA0 Tbct (by decide)).trans (by rw [u181]; exact (q_keepK tA0 Tbch (by decide)).trans (by rw [u169]; exact (q_keepK tA0 Tbcf (by decide)).trans (by rw [u157]; exact (q_keepK tA0 T147 (by decide)).trans iC138.2.1.1)))), (by rw [u193]; exact (q_keepK tA0 Tbct (by decide)).trans (by rw [u181]; exact (q_keepK tA0 Tbch (by decide)).trans (by rw [u169]; exact (q_keepK tA0 Tbcf (by decide)).trans (by rw [u157]; exact (q_keepK tA0 T147 (by decide)).trans iC138.2.1.2.1)))), (by rw [u193]; exact (q_keepK tA0 Tbct (by decide)).trans (by rw [u181]; exact (q_keepK tA0 Tbch (by decide)).trans (by rw [u169]; exact (q_keepK tA0 Tbcf (by decide)).trans (by rw [u157]; exact (q_keepK tA0 T147 (by decide)).trans iC138.2.1.2.2))))⟩, (fun j hj => by rw [((by rw [u193]; exact q_upK Tbc Tbct (by decide) : s193 bc = s181 bc).trans ((by rw [u181]; exact q_upK Tbc Tbch (by decide) : s181 bc = s169 bc).trans ((by rw [u169]; exact q_upK Tbc Tbcf (by decide) : s169 bc = s157 bc).trans (by rw [u157]; exact q_upK Tbc T147 (by decide) : s157 bc = σ138 bc))))]; exact iC138.2.2.1 j hj), (fun j hj => by rw [((by rw [u193]; exact q_upK Tbcf Tbct (by decide) : s193 bcf = s181 bcf).trans (by rw [u181]; exact q_upK Tbcf Tbch (by decide) : s181 bcf = s169 bcf))]; exact q_cpyM (fun j hj => by rw [(by rw [u157]; exact q_upK Tbcf T147 (by decide) : s157 bcf = σ138 bcf)]; exact iC138.2.2.2.1 j hj) u169 (by rw [← iC138.1.2.1, ← (by rw [u157]; exact q_upK Tbf T147 (by decide) : s157 bf = σ138 bf)]; exact f168) (by have o0 := iK138; have o1 := c143; have o2 := h194.1; have o3 := r_14; have o4 := r_13; have o5 := h194.2; unfold q_r at o3 o4 o5; omega) (by have o0 := iK138; have o1 := c143; have o2 := h194.1; have o3 := r_14; have o4 := r_13; have o5 := h194.2; unfold q_r at o3 o4 o5; omega) j hj), (fun j hj => by rw [(by rw [u193]; exact q_upK Tbch Tbct (by decide) : s193 bch = s181 bch)]; exact q_cpyM (fun j hj => by rw [((by rw [u169]; exact q_upK Tbch Tbcf (by decide) : s169 bch = s157 bch).trans (by rw [u157]; exact q_upK Tbch T147 (by decide) : s157 bch = σ138 bch))]; exact iC138.2.2.2.2.1 j hj) u181 (by rw [← iC138.1.2.2.1, ← ((by rw [u169]; exact q_upK Tbh Tbcf (by decide) : s169 bh = s157 bh).trans (by rw [u157]; exact q_upK Tbh T147 (by decide) : s157 bh = σ138 bh))]; exact f180) (by have o0 := iK138; have o1 := c143; have o2 := h194.1; have o3 := r_14; have o4 := r_13; have o5 := h194.2; unfold q_r at o3 o4 o5; omega) (by have o0 := iK138; have o1 := c143; have o2 := h194.1; have o3 := r_14; have o4 := r_13; have o5 := h194.2; unfold q_r at o3 o4 o5; omega) j hj), (q_cpyM (fun j hj => by rw [((by rw [u181]; exact q_upK Tbct Tbch (by decide) : s181 bct = s169 bct).trans ((by rw [u169]; exact q_upK Tbct Tbcf (by decide) : s169 bct = s157 bct).trans (by rw [u157]; exact q_upK Tbct T147 (by decide) : s157 bct = σ138 bct)))]; exact iC138.2.2.2.2.2 j hj) u193 (by rw [← iC138.1.2.2.2, ← ((by rw [u181]; exact q_upK Tbt Tbch (by decide) : s181 bt = s169 bt).trans ((by rw [u169]; exact q_upK Tbt Tbcf (by decide) : s169 bt = s157 bt).trans (by rw [u157]; exact q_upK Tbt T147 (by decide) : s157 bt = σ138 bt)))]; exact f192) (by have o0 := iK138; have o1 := c143; have o2 := h194.1; have o3 := r_14; have o4 := r_13; have o5 := h194.2; unfold q_r at o3 o4 o5; omega) (by have o0 := iK138; have o1 := c143; have o2 := h194.1; have o3 := r_14; have o4 := r_13; have o5 := h194.2; unfold q_r at o3 o4 o5; omega))⟩ (by have o0 := iK138; have o1 := c143; have o2 := h194.1; have o3 := r_14; have o4 := r_13; have o5 := h194.2; unfold q_r at o3 o4 o5; omega) (by rw [u193]; exact (q_keepK tA0 Tbct (by decide)).trans (by rw [u181]; exact (q_keepK tA0 Tbch (by decide)).trans (by rw [u169]; exact (q_keepK tA0 Tbcf (by decide)).trans (by rw [u157]; exact (q_keepK tA0 T147 (by decide)).trans iTP138)))) hF (q_measU hm138 (by have o0 := iK138; have o1 := c143; have o2 := h194.1; have o3 := r_14; have o4 := r_13; have o5 := h194.2; unfold q_r at o3 o4 o5; omega) (h194.2).2)
                  refine q_lv [1, 0] rfl ?_
                  have r_15 := q_neL (c := 1) r46_2 c92 (by decide)
                  exact J138 ((16 - (0 : Int32).toInt).toNat + 1) 0 σ110 (q_r.mono rl_0 (by decide)) hS110 ⟨⟨iC110.1.1, iC110.1.2.1, iC110.1.2.2.1, iC110.1.2.2.2⟩, ⟨iC110.2.1.1, iC110.2.1.2.1, iC110.2.1.2.2⟩, (fun j hj => iC110.2.2 j (by have o0 := lc46; have o1 := iK110; have o2 := c115; have o3 := iL46.2.2.2.1; have o4 := c92; have o5 := iL46.2.1.1; have o6 := r110_3; have o7 := r_15; have o8 := iL46.2.1.2.2.1; unfold q_r at o5 o6 o7 o8; omega)), (fun j hj => absurd hj (by have q := tl_0; omega)), (fun j hj => absurd hj (by have q := tl_0; omega)), (fun j hj => absurd hj (by have q := tl_0; omega))⟩ (by have o0 := iL46.2.1.2.2.2; have l1 := tl_0; unfold q_r at o0; omega) iTP110 (by rw [tl_0]; exact hF) (Nat.lt_succ_self _)
                intro c115
                replace hF := fx_lt1 hF rfl rfl c115
                refine q_aload_n (pc := 118) hG dX12_law_118 0 rfl ?_
                refine q_getV (pc := 119) (v := .ref bc) hG fl_X12_41 dX12_law_119 tA0 (hS110.same tA0 rfl hbc) ?_
                refine q_iload_n (pc := 122) hG dX12_law_122 1 rfl ?_
                refine q_aload_n (pc := 123) hG dX12_law_123 0 rfl ?_
                refine q_getV (pc := 124) (v := .ref bs) hG fl_X12_23 dX12_law_124 tA0 (hS110.same tA0 rfl hbs) ?_
                refine q_iload_n (pc := 127) hG dX12_law_127 1 rfl ?_
                have r_16 := q_rlt r110_3 iL46.2.1.1 c115 259 (by decide)
                refine q_iald (pc := 128) hG dX12_law_128 hS110.1 ai_150 Tbs (q_ix r_16 (by decide)) (fun v128 f128 g128 => ?_)
                replace hF := fx_I hF f128 rfl
                refine q_iast (pc := 129) hG dX12_law_129 hS110 ai_156 Tbc (q_ix r_16 (by decide)) g128 (by decide) rfl (fun s129 u129 w129 => ?_)
                replace hF := fx_P hF u129 rfl rfl
                have m129 : s129 bc p110_3.toInt.toNat = .int v128 := by rw [u129]; exact q_up_same
                obtain ⟨v130, e130⟩ : ∃ z : Int32, z = p110_3 + Int32.ofInt 1 := ⟨_, rfl⟩
                have h130 := q_incN (lo := 1) (hi := 260) r_16 (by decide) (by decide) e130
                replace hF := fx_add hF rfl rfl h130.1
                refine q_iinc (pc := 130) [(3, .int v130), (0, .ref a0)] hG dX12_law_130 1 rfl e130 (by decide) rfl ?_
                refine q_goto (pc := 133) 110 hG dX12_law_133 rfl ?_
                refine q_lv [1, 0] rfl ?_
                have r_17 := q_rgt iL46.2.1.1 r110_3 c115 1 (by decide)
                have r_18 := q_neL (c := 1) r46_2 c92 (by decide)
                exact ih110 v130 s129 (q_r.mono h130.2 (by decide)) w129 ⟨⟨((by rw [u129]; exact q_upK Tbs Tbc (by decide) : s129 bs = σ110 bs).trans iC110.1.1), ((by rw [u129]; exact q_upK Tbf Tbc (by decide) : s129 bf = σ110 bf).trans iC110.1.2.1), ((by rw [u129]; exact q_upK Tbh Tbc (by decide) : s129 bh = σ110 bh).trans iC110.1.2.2.1), ((by rw [u129]; exact q_upK Tbt Tbc (by decide) : s129 bt = σ110 bt).trans iC110.1.2.2.2)⟩, ⟨(by rw [u129]; exact (q_keepK tA0 Tbc (by decide)).trans iC110.2.1.1), (by rw [u129]; exact (q_keepK tA0 Tbc (by decide)).trans iC110.2.1.2.1), (by rw [u129]; exact (q_keepK tA0 Tbc (by decide)).trans iC110.2.1.2.2)⟩, (q_cpyM iC110.2.2 u129 (by rw [← iC110.1.1]; exact f128) (by have o0 := iK110; have o1 := c115; have o2 := h130.1; have o3 := lc46; have o4 := iL46.2.2.2.1; have o5 := c92; have o6 := r_17; have o7 := r_16; have o8 := r_18; have o9 := iL46.2.1.2.2.1; have o10 := h130.2; unfold q_r at o6 o7 o8 o9 o10; omega) (by have o0 := iK110; have o1 := c115; have o2 := h130.1; have o3 := lc46; have o4 := iL46.2.2.2.1; have o5 := c92; have o6 := r_17; have o7 := r_16; have o8 := r_18; have o9 := iL46.2.1.2.2.1; have o10 := h130.2; unfold q_r at o6 o7 o8 o9 o10; omega))⟩ (by have o0 := lc46; have o1 := iK110; have o2 := c115; have o3 := h130.1; have o4 := iL46.2.2.2.1; have o5 := c92; have o6 := r_17; have o7 := r_16; have o8 := r_18; have o9 := iL46.2.1.2.2.1; have o10 := h130.2; unfold q_r at o6 o7 o8 o9 o10; omega) (by rw [u129]; exact (q_keepK tA0 Tbc (by decide)).trans iTP110) hF (q_measU hm110 (by have o0 := iK110; have o1 := c115; have o2 := h130.1; have o3 := lc46; have o4 := iL46.2.2.2.1; have o5 := c92; have o6 := r_17; have o7 := r_16; have o8 := r_18; have o9 := iL46.2.1.2.2.1; have o10 := h130.2; unfold q_r at o6 o7 o8 o9 o10; omega) (h130.2).2)
            refine q_lv [1, 0] rfl ?_
            have r_19 := q_neL (c := 1) r46_2 c92 (by decide)
            exact J110 ((260 - (0 : Int32).toInt).toNat + 1) 0 s105 (q_r.mono rl_0 (by decide)) w105 ⟨⟨rfl, rfl, rfl, rfl⟩, ⟨(by rw [u105]; exact (q_up_else (Or.inr (by decide))).trans (by rw [u88]; exact (q_up_else (Or.inr (by decide))).trans iL46.1.1)), (by rw [u105]; exact (q_up_else (Or.inr (by decide))).trans (by rw [u88]; exact (q_up_else (Or.inr (by decide))).trans iL46.1.2.2.2)), m105⟩, (fun j hj => absurd hj (by have q := tl_0; omega))⟩ (by have o0 := lc46; have o1 := iL46.2.2.2.1; have o2 := c92; have o3 := iL46.2.1.1; have o4 := r_19; have o5 := iL46.2.1.2.2.1; have l6 := tl_0; unfold q_r at o3 o4 o5; omega) (by rw [u105]; exact (q_up_else (Or.inr (by decide))).trans m88) (by rw [tl_0]; exact hF) (Nat.lt_succ_self _)
          intro c92
          replace hF := fx_eq1 hF rfl rfl c92
          refine q_aload_n (pc := 95) hG dX12_law_95 0 rfl ?_
          refine q_getI (pc := 96) hG fl_X12_136 dX12_law_96 w88.1 tA0 ff_10_7 (fun v96 f96 g96 => ?_)
          replace hF := fx_I hF f96 rfl
          have r_20 := q_rge q_1r r_5 c16
          have r_21 := q_neL (c := 1) p5.1 c8 (by decide)
          exact q_irt hG hE dX12_law_99 ⟨w88, g96, (fx_end hF hF0), (fun t e => by cases e.symm.trans q_1f; exact ⟨0, m88, (by have o0 := p5.2.2; have o1 := c8; have o2 := g_3.1; have o3 := g_3.2; have o4 := c16; have o5 := r_20; have o6 := r_21; have o7 := g96; have o8 := r_5; have l9 := tl_0; have l10 := tl_1; have l11 := tl_240; unfold q_r at o5 o6 o7 o8; omega)⟩), (by rw [u88]; exact q_wf.keep (md := [(10, 4)]) hS46.1 (q_F.rf.put tA0 rfl) tA0 rfl iL46.2.2.1)⟩
        refine q_if_eq (pc := 47) hG 86 dX12_law_47 rfl ?_ ?_
        · intro c47
          replace hF := fx_eq1 hF rfl rfl c47
          refine q_lv [0, 1] rfl ?_
          exact J86 hF
        intro c47
        have g_22 := iL46.2.2.2.2 (q_one r46_2 c47)
        obtain ⟨lc46, sdL46⟩ := g_22
        replace hF := fx_eq2 hF rfl rfl c47
        refine q_aload_n (pc := 50) hG dX12_law_50 0 rfl ?_
        refine q_getV (pc := 51) (v := .int pL46) hG fl_X12_126 dX12_law_51 tA0 iL46.1.2.2.1 ?_
        refine q_aload_n (pc := 54) hG dX12_law_54 0 rfl ?_
        refine q_getI (pc := 55) hG fl_X12_129 dX12_law_55 hS46.1 tA0 ff_10_6 (fun v55 f55 g55 => ?_)
        replace hF := fx_I hF f55 rfl
        refine q_icmp_ge (pc := 58) hG 86 dX12_law_58 rfl ?_ ?_
        · intro c58
          replace hF := fx_lt2 hF rfl rfl c58
          refine q_lv [0, 1] rfl ?_
          exact J86 hF
        intro c58
        replace hF := fx_lt1 hF rfl rfl c58
        refine q_aload_n (pc := 61) hG dX12_law_61 0 rfl ?_
        refine q_bipush (pc := 62) hG dX12_law_62 kb_59 ?_
        refine q_cVi (pc := 64) [.int 59] [] hG (c_X12_takes τ σ46 a0 59 hS46.1 tA0 (q_r.mono rl_59 (by decide))) my_X12_takes mv_X12_takes w891 dX12_law_64 tA0 (by decide) rfl rfl (Nat.le_of_ble_eq_true rfl) (by decide) (fun v64 s64 p64 => ?_)
        have w64 := hS46.trans p64.1 rfl
        have fq64 := p64.2.2.1
        rewrite [tl_59] at fq64
        replace hF := fx_C hF fq64
        obtain ⟨y64, fy64, ry64, ly64, gy64⟩ := p64.2.2.2 pL46 iL46.1.2.2.1
        replace hF := fx_I hF fy64 rfl
        have J82 : ∀ (p82_s0 : Int32) (σ82 : q_V) (cL82 : Int32) (wL82 : Int32) (pL82 : Int32) (mL82 : Int32) (PL82 : Int), (q_r p82_s0 0 1) → (q_S md_X12_law τ σ σ82) → ((σ82 a0 10 = .int cL82 ∧ σ82 a0 11 = .int wL82 ∧ σ82 a0 5 = .int pL82 ∧ σ82 a0 12 = .int mL82) ∧ (q_r cL82 0 260 ∧ q_r wL82 0 260 ∧ q_r pL82 0 260 ∧ q_r mL82 0 16) ∧ q_wf σ82 a0 ∧ (PL46 < PL82 ∧ 0 ≤ PL82 ∧ PL82 ≤ 261 ∧ (p82_s0.toInt = 1 → PL82 ≤ pL82.toInt)) ∧ (p82_s0.toInt = 1 → q_x (((0 ≤ cL82.toInt ∧ cL82.toInt ≤ pL82.toInt) ∧ pL82.toInt ≤ 260) ∧ q_sd (σ82 bs) (σ82 bf) (σ82 bh) (σ82 bt) mL82.toInt cL82.toInt))) → (fx_eq Fv (kJ_X12_law_82 (kL_X12_law_46 a0 bs bc bf bcf bh bch bt bct n46) p82_s0.toInt (fx_N σ82) cL82.toInt wL82.toInt pL82.toInt mL82.toInt)) → q_O X 0 0 τ σ82 82 [(0, .ref a0)] [.int p82_s0] := by
          intro p82_s0 σ82 cL82 wL82 pL82 mL82 PL82 r82_s0 hS82 iL82 hF
          unfold kJ_X12_law_82 at hF
          refine q_istore_n (pc := 82) [(2, .int p82_s0), (0, .ref a0)] hG dX12_law_82 (by decide) rfl ?_
          refine q_goto (pc := 83) 46 hG dX12_law_83 rfl ?_
          refine q_lv [1, 0] rfl ?_
          exact ih46 p82_s0 σ82 cL82 wL82 pL82 mL82 (PL82) r82_s0 hS82 ⟨⟨iL82.1.1, iL82.1.2.1, iL82.1.2.2.1, iL82.1.2.2.2⟩, ⟨iL82.2.1.1, iL82.2.1.2.1, iL82.2.1.2.2.1, iL82.2.1.2.2.2⟩, iL82.2.2.1, ⟨iL82.2.2.2.1.2.1, iL82.2.2.2.1.2.2.1, iL82.2.2.2.1.2.2.2⟩, iL82.2.2.2.2⟩ hF (by have q := iL82.2.2.2.1; have q2 := iL46.2.2.2.1; have q3 := hm46; omega)
        have J81 : ∀ (σ81 : q_V), (q_S md_X12_law τ σ σ81) → (q_wf σ81 a0) → (fx_eq Fv (kJ_X12_law_81 a0 (kL_X12_law_46 a0 bs bc bf bcf bh bch bt bct n46) (fx_N σ81))) → q_O X 0 0 τ σ81 81 [(0, .ref a0)] [] := by
          intro σ81 hS81 iW81 hF
          unfold kJ_X12_law_81 at hF
          refine q_iconst (pc := 81) hG dX12_law_81 ki_0 ?_
          refine q_lv [0] rfl ?_
          obtain ⟨q_23v, q_23f, q_23r⟩ := (hS81.1 a0 10 1 tA0 10 (by decide)).int ff_10_10
          replace hF := fx_I hF q_23f rfl
          obtain ⟨q_24v, q_24f, q_24r⟩ := (hS81.1 a0 10 1 tA0 11 (by decide)).int ff_10_11
          replace hF := fx_I hF q_24f rfl
          obtain ⟨q_25v, q_25f, q_25r⟩ := (hS81.1 a0 10 1 tA0 5 (by decide)).int ff_10_5
          replace hF := fx_I hF q_25f rfl
          obtain ⟨q_26v, q_26f, q_26r⟩ := (hS81.1 a0 10 1 tA0 12 (by decide)).int ff_10_12
          replace hF := fx_I hF q_26f rfl
          have r_27 := q_neL (c := 1) r46_2 c47 (by decide)
          have r_28 := q_rlt iL46.2.1.2.2.1 g55 c58 259 (by decide)
          have r_29 := q_rgt g55 iL46.2.1.2.2.1 c58 1 (by decide)
          exact J82 0 σ81 q_23v q_24v q_25v q_26v (261) (q_r.mono rl_0 (by decide)) hS81 ⟨⟨q_23f, q_24f, q_25f, q_26f⟩, ⟨q_23r, q_24r, q_25r, q_26r⟩, iW81, ⟨(by have o0 := iL46.2.2.2.1; have o1 := c47; have o2 := lc46; have o3 := c58; have o4 := ly64; have o5 := gy64; have o6 := iL46.2.1.1; have o7 := r_27; have o8 := r_28; have o9 := q_25r; have o10 := r_29; have o11 := p64.2.1; have o12 := ry64; have l13 := tl_0; unfold q_r at o6 o7 o8 o9 o10 o11 o12; omega), (by decide), (by decide), (fun q => absurd q (by have l0 := tl_0; omega))⟩, (fun q => absurd q (by have l0 := tl_0; omega))⟩ (by rw [tl_0]; exact hF)
        refine q_if_eq (pc := 67) hG 81 dX12_law_67 rfl ?_ ?_
        · intro c67
          replace hF := fx_eq1 hF rfl rfl c67
          refine q_lv [0] rfl ?_
          exact J81 s64 w64 (q_wf.keep hS46.1 p64.1.2 tA0 rfl iL46.2.2.1) hF
        intro c67
        replace hF := fx_eq2 hF rfl rfl c67
        refine q_aload_n (pc := 70) hG dX12_law_70 0 rfl ?_
        have r_30 := q_neL (c := 1) r46_2 c47 (by decide)
        have r_31 := q_rlt iL46.2.1.2.2.1 g55 c58 259 (by decide)
        have r_32 := q_rgt g55 iL46.2.1.2.2.1 c58 1 (by decide)
        have r_33 := q_neL (c := 1) p64.2.1 c67 (by decide)
        refine q_cVi (pc := 71) [] [] hG (c_X12_readsClause τ s64 a0 w64.1 tA0 bs bw (w64.same tA0 rfl hbs) (w64.same tA0 rfl hbw) Tbs Tbw cL46 wL46 y64 (p64.1.same tA0 rfl iL46.1.1) (p64.1.same tA0 rfl iL46.1.2.1) fy64 (by have o0 := lc46; have o1 := c58; have o2 := ly64; have o3 := gy64; have o4 := c67; have o5 := iL46.2.2.2.1; have o6 := c47; have o7 := iL46.2.1.1; have o8 := r_30; have o9 := r_31; have o10 := r_32; have o11 := r_33; have o12 := ry64; unfold q_r at o7 o8 o9 o10 o11 o12; omega) bf bh bt (w64.same tA0 rfl hbf) (w64.same tA0 rfl hbh) (w64.same tA0 rfl hbt) Tbf Tbh Tbt mL46 (p64.1.same tA0 rfl iL46.1.2.2.2) iL46.2.1.2.2.2 (by rw [((funext fun j => p64.1.2.arr Tbs (by decide) rfl) : s64 bs = σ46 bs), ((funext fun j => p64.1.2.arr Tbf (by decide) rfl) : s64 bf = σ46 bf), ((funext fun j => p64.1.2.arr Tbh (by decide) rfl) : s64 bh = σ46 bh), ((funext fun j => p64.1.2.arr Tbt (by decide) rfl) : s64 bt = σ46 bt)]; exact sdL46)) my_X12_readsClause mv_X12_readsClause w901 dX12_law_71 tA0 (by decide) rfl rfl (Nat.le_of_ble_eq_true rfl) (by decide) (fun v71 s71 p71 => ?_)
        have w71 := w64.trans p71.1 rfl
        replace hF := fx_C hF p71.2.2.1
        refine q_if_eq (pc := 74) hG 81 dX12_law_74 rfl ?_ ?_
        · intro c74
          replace hF := fx_eq1 hF rfl rfl c74
          refine q_lv [0] rfl ?_
          exact J81 s71 w71 (q_wf.keep w64.1 p71.1.2 tA0 rfl (q_wf.keep hS46.1 p64.1.2 tA0 rfl iL46.2.2.1)) hF
        intro c74
        have g_34 := p71.2.2.2 (q_one p71.2.1 c74)
        obtain ⟨c6_71, p6_71, m6_71, ⟨fc71, fp71, fm71⟩, ⟨lc71, lp71, lm71⟩, rm71, sd71⟩ := g_34
        replace hF := fx_eq2 hF rfl rfl c74
        replace hF := fx_I hF fc71 rfl
        replace hF := fx_I hF fp71 rfl
        replace hF := fx_I hF fm71 rfl
        refine q_iconst (pc := 77) hG dX12_law_77 ki_1 ?_
        refine q_goto (pc := 78) 82 hG dX12_law_78 rfl ?_
        refine q_lv [0] rfl ?_
        obtain ⟨q_35v, q_35f, q_35r⟩ := (w71.1 a0 10 1 tA0 11 (by decide)).int ff_10_11
        replace hF := fx_I hF q_35f rfl
        exact J82 1 s71 c6_71 q_35v p6_71 m6_71 (p6_71.toInt) (q_r.mono rl_1 (by decide)) w71 ⟨⟨fc71, q_35f, fp71, fm71⟩, ⟨(show q_r c6_71 0 260 from ⟨by have q := lc71; omega, by have q := lc71; omega⟩), q_35r, (show q_r p6_71 0 260 from ⟨by have q := lc71; omega, by have q := lc71; omega⟩), rm71⟩, (q_wf.keep w64.1 p71.1.2 tA0 rfl (q_wf.keep hS46.1 p64.1.2 tA0 rfl iL46.2.2.1)), ⟨(by have o0 := iL46.2.2.2.1; have o1 := c47; have o2 := lc46; have o3 := c58; have o4 := ly64; have o5 := gy64; have o6 := c67; have o7 := lc71; have o8 := lp71; have o9 := (show q_r c6_71 0 260 from ⟨by have q := lc71; omega, by have q := lc71; omega⟩); have o10 := iL46.2.1.1; have o11 := r_30; have o12 := (show q_r p6_71 0 260 from ⟨by have q := lc71; omega, by have q := lc71; omega⟩); have o13 := r_31; have o14 := r_32; have o15 := r_33; have o16 := ry64; unfold q_r at o9 o10 o11 o12 o13 o14 o15 o16; omega), (by have o0 := lc71; have o1 := lp71; have o2 := ly64; have o3 := gy64; have o4 := c67; have o5 := iL46.2.2.2.1; have o6 := c47; have o7 := lc46; have o8 := c58; have o9 := (show q_r c6_71 0 260 from ⟨by have q := lc71; omega, by have q := lc71; omega⟩); have o10 := iL46.2.1.1; have o11 := r_30; have o12 := (show q_r p6_71 0 260 from ⟨by have q := lc71; omega, by have q := lc71; omega⟩); have o13 := r_31; have o14 := r_32; have o15 := r_33; have o16 := ry64; unfold q_r at o9 o10 o11 o12 o13 o14 o15 o16; omega), (by have o0 := lc71; have o1 := lp71; have o2 := ly64; have o3 := gy64; have o4 := c67; have o5 := iL46.2.2.2.1; have o6 := c47; have o7 := lc46; have o8 := c58; have o9 := (show q_r c6_71 0 260 from ⟨by have q := lc71; omega, by have q := lc71; omega⟩); have o10 := iL46.2.1.1; have o11 := r_30; have o12 := (show q_r p6_71 0 260 from ⟨by have q := lc71; omega, by have q := lc71; omega⟩); have o13 := r_31; have o14 := r_32; have o15 := r_33; have o16 := ry64; unfold q_r at o9 o10 o11 o12 o13 o14 o15 o16; omega), (fun _ => Int.le_refl _)⟩, (fun _ => q_x.mk ⟨(by have o0 := lc71; have o1 := lp71; have o2 := ly64; have o3 := gy64; have o4 := c67; have o5 := iL46.2.2.2.1; have o6 := c47; have o7 := lc46; have o8 := c58; have o9 := (show q_r c6_71 0 260 from ⟨by have q := lc71; omega, by have q := lc71; omega⟩); have o10 := iL46.2.1.1; have o11 := r_30; have o12 := (show q_r p6_71 0 260 from ⟨by have q := lc71; omega, by have q := lc71; omega⟩); have o13 := r_31; have o14 := r_32; have o15 := r_33; have o16 := ry64; unfold q_r at o9 o10 o11 o12 o13 o14 o15 o16; omega), sd71⟩)⟩ (by rw [tl_1]; exact hF)
    refine q_lv [1, 0] rfl ?_
    obtain ⟨q_36v, q_36f, q_36r⟩ := (w42.1 a0 10 1 tA0 10 (by decide)).int ff_10_10
    replace hF := fx_I hF q_36f rfl
    obtain ⟨q_37v, q_37f, q_37r⟩ := (w42.1 a0 10 1 tA0 11 (by decide)).int ff_10_11
    replace hF := fx_I hF q_37f rfl
    obtain ⟨q_38v, q_38f, q_38r⟩ := (w42.1 a0 10 1 tA0 5 (by decide)).int ff_10_5
    replace hF := fx_I hF q_38f rfl
    obtain ⟨q_39v, q_39f, q_39r⟩ := (w42.1 a0 10 1 tA0 12 (by decide)).int ff_10_12
    replace hF := fx_I hF q_39f rfl
    exact J46 (262) v42 s42 q_36v q_37v q_38v q_39v (0) p42.2.1 w42 ⟨⟨q_36f, q_37f, q_38f, q_39f⟩, ⟨q_36r, q_37r, q_38r, q_39r⟩, (q_wf.keep w38.1 p42.1.2 tA0 rfl (by rw [u38]; exact q_wf.keep (md := [(10, 12)]) w33.1 (q_F.rf.put tA0 rfl) tA0 rfl (by rw [u33]; exact q_wf.keep (md := [(10, 10)]) w28.1 (q_F.rf.put tA0 rfl) tA0 rfl (by rw [u28]; exact q_wf.keep (md := [(10, 6)]) w23.1 (q_F.rf.put tA0 rfl) tA0 rfl (by rw [u23]; exact q_wf.keep (md := [(10, 5)]) hI (q_F.rf.put tA0 rfl) tA0 rfl hW))))), ⟨(by decide), (by decide), (fun _ => (by have o0 := q_38r; unfold q_r at o0; skip; omega))⟩, (fun q => by obtain ⟨c6, p6, m6, ⟨fc, fp, fm⟩, ⟨lc, lp, lm⟩, rm, sd⟩ := p42.2.2.2 q; cases fc.symm.trans q_36f; cases fp.symm.trans q_38f; cases fm.symm.trans q_39f; exact q_x.mk ⟨lc, sd⟩)⟩ hF (by decide)
  intro c16
  have r_40 := q_rle r_4 rl_240 g_3.2
  replace hF := fx_lt1 hF rfl rfl c16
  refine q_iconst (pc := 19) hG dX12_law_19 ki_m1 ?_
  have r_41 := q_rlt q_1r r_40 c16 239 (by decide)
  have r_42 := q_neL (c := 1) p5.1 c8 (by decide)
  exact q_irt hG hE dX12_law_20 ⟨hS0, (q_r.mono rl_m1 (by decide)), (by rw [tl_m1]; exact fx_end hF hF0), (fun t e => by cases e.symm.trans q_1f; exact ⟨q_1v, q_1f, (by have o0 := p5.2.2; have o1 := c8; have o2 := g_3.1; have o3 := g_3.2; have o4 := c16; have o5 := r_41; have o6 := r_42; have o7 := r_40; have l8 := tl_m1; have l9 := tl_1; have l10 := tl_240; unfold q_r at o5 o6 o7; omega)⟩), hW⟩
