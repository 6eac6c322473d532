/-! laid by wip/p2/build.py -/
theorem dX7_copyFrom_0 : decode cX7_copyFrom 0 = .ok (.aload_n 0, 1) := by decide +kernel
theorem dX7_copyFrom_1 : decode cX7_copyFrom 1 = .ok (.aload_n 1, 1) := by decide +kernel
theorem dX7_copyFrom_2 : decode cX7_copyFrom 2 = .ok (.getfield 9, 3) := by decide +kernel
theorem dX7_copyFrom_5 : decode cX7_copyFrom 5 = .ok (.putfield 9, 3) := by decide +kernel
theorem dX7_copyFrom_8 : decode cX7_copyFrom 8 = .ok (.aload_n 1, 1) := by decide +kernel
theorem dX7_copyFrom_9 : decode cX7_copyFrom 9 = .ok (.getfield 15, 3) := by decide +kernel
theorem dX7_copyFrom_12 : decode cX7_copyFrom 12 = .ok (.iconst 0, 1) := by decide +kernel
theorem dX7_copyFrom_13 : decode cX7_copyFrom 13 = .ok (.aload_n 0, 1) := by decide +kernel
theorem dX7_copyFrom_14 : decode cX7_copyFrom 14 = .ok (.getfield 15, 3) := by decide +kernel
theorem dX7_copyFrom_17 : decode cX7_copyFrom 17 = .ok (.iconst 0, 1) := by decide +kernel
theorem dX7_copyFrom_18 : decode cX7_copyFrom 18 = .ok (.bipush 64, 2) := by decide +kernel
theorem dX7_copyFrom_20 : decode cX7_copyFrom 20 = .ok (.invokestatic 75, 3) := by decide +kernel
theorem dX7_copyFrom_23 : decode cX7_copyFrom 23 = .ok (.aload_n 1, 1) := by decide +kernel
theorem dX7_copyFrom_24 : decode cX7_copyFrom 24 = .ok (.getfield 19, 3) := by decide +kernel
theorem dX7_copyFrom_27 : decode cX7_copyFrom 27 = .ok (.iconst 0, 1) := by decide +kernel
theorem dX7_copyFrom_28 : decode cX7_copyFrom 28 = .ok (.aload_n 0, 1) := by decide +kernel
theorem dX7_copyFrom_29 : decode cX7_copyFrom 29 = .ok (.getfield 19, 3) := by decide +kernel
theorem dX7_copyFrom_32 : decode cX7_copyFrom 32 = .ok (.iconst 0, 1) := by decide +kernel
theorem dX7_copyFrom_33 : decode cX7_copyFrom 33 = .ok (.bipush 64, 2) := by decide +kernel
theorem dX7_copyFrom_35 : decode cX7_copyFrom 35 = .ok (.invokestatic 75, 3) := by decide +kernel
theorem dX7_copyFrom_38 : decode cX7_copyFrom 38 = .ok (.aload_n 1, 1) := by decide +kernel
theorem dX7_copyFrom_39 : decode cX7_copyFrom 39 = .ok (.getfield 22, 3) := by decide +kernel
theorem dX7_copyFrom_42 : decode cX7_copyFrom 42 = .ok (.iconst 0, 1) := by decide +kernel
theorem dX7_copyFrom_43 : decode cX7_copyFrom 43 = .ok (.aload_n 0, 1) := by decide +kernel
theorem dX7_copyFrom_44 : decode cX7_copyFrom 44 = .ok (.getfield 22, 3) := by decide +kernel
theorem dX7_copyFrom_47 : decode cX7_copyFrom 47 = .ok (.iconst 0, 1) := by decide +kernel
theorem dX7_copyFrom_48 : decode cX7_copyFrom 48 = .ok (.bipush 64, 2) := by decide +kernel
theorem dX7_copyFrom_50 : decode cX7_copyFrom 50 = .ok (.invokestatic 75, 3) := by decide +kernel
theorem dX7_copyFrom_53 : decode cX7_copyFrom 53 = .ok (.aload_n 1, 1) := by decide +kernel
theorem dX7_copyFrom_54 : decode cX7_copyFrom 54 = .ok (.getfield 25, 3) := by decide +kernel
theorem dX7_copyFrom_57 : decode cX7_copyFrom 57 = .ok (.iconst 0, 1) := by decide +kernel
theorem dX7_copyFrom_58 : decode cX7_copyFrom 58 = .ok (.aload_n 0, 1) := by decide +kernel
theorem dX7_copyFrom_59 : decode cX7_copyFrom 59 = .ok (.getfield 25, 3) := by decide +kernel
theorem dX7_copyFrom_62 : decode cX7_copyFrom 62 = .ok (.iconst 0, 1) := by decide +kernel
theorem dX7_copyFrom_63 : decode cX7_copyFrom 63 = .ok (.bipush 64, 2) := by decide +kernel
theorem dX7_copyFrom_65 : decode cX7_copyFrom 65 = .ok (.invokestatic 75, 3) := by decide +kernel
theorem dX7_copyFrom_68 : decode cX7_copyFrom 68 = .ok (.aload_n 1, 1) := by decide +kernel
theorem dX7_copyFrom_69 : decode cX7_copyFrom 69 = .ok (.getfield 28, 3) := by decide +kernel
theorem dX7_copyFrom_72 : decode cX7_copyFrom 72 = .ok (.iconst 0, 1) := by decide +kernel
theorem dX7_copyFrom_73 : decode cX7_copyFrom 73 = .ok (.aload_n 0, 1) := by decide +kernel
theorem dX7_copyFrom_74 : decode cX7_copyFrom 74 = .ok (.getfield 28, 3) := by decide +kernel
theorem dX7_copyFrom_77 : decode cX7_copyFrom 77 = .ok (.iconst 0, 1) := by decide +kernel
theorem dX7_copyFrom_78 : decode cX7_copyFrom 78 = .ok (.bipush 64, 2) := by decide +kernel
theorem dX7_copyFrom_80 : decode cX7_copyFrom 80 = .ok (.invokestatic 75, 3) := by decide +kernel
theorem dX7_copyFrom_83 : decode cX7_copyFrom 83 = .ok (.aload_n 1, 1) := by decide +kernel
theorem dX7_copyFrom_84 : decode cX7_copyFrom 84 = .ok (.getfield 31, 3) := by decide +kernel
theorem dX7_copyFrom_87 : decode cX7_copyFrom 87 = .ok (.iconst 0, 1) := by decide +kernel
theorem dX7_copyFrom_88 : decode cX7_copyFrom 88 = .ok (.aload_n 0, 1) := by decide +kernel
theorem dX7_copyFrom_89 : decode cX7_copyFrom 89 = .ok (.getfield 31, 3) := by decide +kernel
theorem dX7_copyFrom_92 : decode cX7_copyFrom 92 = .ok (.iconst 0, 1) := by decide +kernel
theorem dX7_copyFrom_93 : decode cX7_copyFrom 93 = .ok (.bipush 64, 2) := by decide +kernel
theorem dX7_copyFrom_95 : decode cX7_copyFrom 95 = .ok (.invokestatic 75, 3) := by decide +kernel
theorem dX7_copyFrom_98 : decode cX7_copyFrom 98 = .ok (.aload_n 1, 1) := by decide +kernel
theorem dX7_copyFrom_99 : decode cX7_copyFrom 99 = .ok (.getfield 34, 3) := by decide +kernel
theorem dX7_copyFrom_102 : decode cX7_copyFrom 102 = .ok (.iconst 0, 1) := by decide +kernel
theorem dX7_copyFrom_103 : decode cX7_copyFrom 103 = .ok (.aload_n 0, 1) := by decide +kernel
theorem dX7_copyFrom_104 : decode cX7_copyFrom 104 = .ok (.getfield 34, 3) := by decide +kernel
theorem dX7_copyFrom_107 : decode cX7_copyFrom 107 = .ok (.iconst 0, 1) := by decide +kernel
theorem dX7_copyFrom_108 : decode cX7_copyFrom 108 = .ok (.bipush 64, 2) := by decide +kernel
theorem dX7_copyFrom_110 : decode cX7_copyFrom 110 = .ok (.invokestatic 75, 3) := by decide +kernel
theorem dX7_copyFrom_113 : decode cX7_copyFrom 113 = .ok (.aload_n 1, 1) := by decide +kernel
theorem dX7_copyFrom_114 : decode cX7_copyFrom 114 = .ok (.getfield 37, 3) := by decide +kernel
theorem dX7_copyFrom_117 : decode cX7_copyFrom 117 = .ok (.iconst 0, 1) := by decide +kernel
theorem dX7_copyFrom_118 : decode cX7_copyFrom 118 = .ok (.aload_n 0, 1) := by decide +kernel
theorem dX7_copyFrom_119 : decode cX7_copyFrom 119 = .ok (.getfield 37, 3) := by decide +kernel
theorem dX7_copyFrom_122 : decode cX7_copyFrom 122 = .ok (.iconst 0, 1) := by decide +kernel
theorem dX7_copyFrom_123 : decode cX7_copyFrom 123 = .ok (.bipush 64, 2) := by decide +kernel
theorem dX7_copyFrom_125 : decode cX7_copyFrom 125 = .ok (.invokestatic 75, 3) := by decide +kernel
theorem dX7_copyFrom_128 : decode cX7_copyFrom 128 = .ok (.iconst 0, 1) := by decide +kernel
theorem dX7_copyFrom_129 : decode cX7_copyFrom 129 = .ok (.istore_n 2, 1) := by decide +kernel
theorem dX7_copyFrom_130 : decode cX7_copyFrom 130 = .ok (.iload_n 2, 1) := by decide +kernel
theorem dX7_copyFrom_131 : decode cX7_copyFrom 131 = .ok (.iconst 2, 1) := by decide +kernel
theorem dX7_copyFrom_132 : decode cX7_copyFrom 132 = .ok (.if_icmp .ge 57, 3) := by decide +kernel
theorem dX7_copyFrom_135 : decode cX7_copyFrom 135 = .ok (.aload_n 0, 1) := by decide +kernel
theorem dX7_copyFrom_136 : decode cX7_copyFrom 136 = .ok (.getfield 40, 3) := by decide +kernel
theorem dX7_copyFrom_139 : decode cX7_copyFrom 139 = .ok (.iload_n 2, 1) := by decide +kernel
theorem dX7_copyFrom_140 : decode cX7_copyFrom 140 = .ok (.aload_n 1, 1) := by decide +kernel
theorem dX7_copyFrom_141 : decode cX7_copyFrom 141 = .ok (.getfield 40, 3) := by decide +kernel
theorem dX7_copyFrom_144 : decode cX7_copyFrom 144 = .ok (.iload_n 2, 1) := by decide +kernel
theorem dX7_copyFrom_145 : decode cX7_copyFrom 145 = .ok (.baload, 1) := by decide +kernel
theorem dX7_copyFrom_146 : decode cX7_copyFrom 146 = .ok (.bastore, 1) := by decide +kernel
theorem dX7_copyFrom_147 : decode cX7_copyFrom 147 = .ok (.aload_n 0, 1) := by decide +kernel
theorem dX7_copyFrom_148 : decode cX7_copyFrom 148 = .ok (.getfield 44, 3) := by decide +kernel
theorem dX7_copyFrom_151 : decode cX7_copyFrom 151 = .ok (.iload_n 2, 1) := by decide +kernel
theorem dX7_copyFrom_152 : decode cX7_copyFrom 152 = .ok (.aload_n 1, 1) := by decide +kernel
theorem dX7_copyFrom_153 : decode cX7_copyFrom 153 = .ok (.getfield 44, 3) := by decide +kernel
theorem dX7_copyFrom_156 : decode cX7_copyFrom 156 = .ok (.iload_n 2, 1) := by decide +kernel
theorem dX7_copyFrom_157 : decode cX7_copyFrom 157 = .ok (.iaload, 1) := by decide +kernel
theorem dX7_copyFrom_158 : decode cX7_copyFrom 158 = .ok (.iastore, 1) := by decide +kernel
theorem dX7_copyFrom_159 : decode cX7_copyFrom 159 = .ok (.aload_n 0, 1) := by decide +kernel
theorem dX7_copyFrom_160 : decode cX7_copyFrom 160 = .ok (.getfield 47, 3) := by decide +kernel
theorem dX7_copyFrom_163 : decode cX7_copyFrom 163 = .ok (.iload_n 2, 1) := by decide +kernel
theorem dX7_copyFrom_164 : decode cX7_copyFrom 164 = .ok (.aload_n 1, 1) := by decide +kernel
theorem dX7_copyFrom_165 : decode cX7_copyFrom 165 = .ok (.getfield 47, 3) := by decide +kernel
theorem dX7_copyFrom_168 : decode cX7_copyFrom 168 = .ok (.iload_n 2, 1) := by decide +kernel
theorem dX7_copyFrom_169 : decode cX7_copyFrom 169 = .ok (.iaload, 1) := by decide +kernel
theorem dX7_copyFrom_170 : decode cX7_copyFrom 170 = .ok (.iastore, 1) := by decide +kernel
theorem dX7_copyFrom_171 : decode cX7_copyFrom 171 = .ok (.aload_n 0, 1) := by decide +kernel
theorem dX7_copyFrom_172 : decode cX7_copyFrom 172 = .ok (.getfield 50, 3) := by decide +kernel
theorem dX7_copyFrom_175 : decode cX7_copyFrom 175 = .ok (.iload_n 2, 1) := by decide +kernel
theorem dX7_copyFrom_176 : decode cX7_copyFrom 176 = .ok (.aload_n 1, 1) := by decide +kernel
theorem dX7_copyFrom_177 : decode cX7_copyFrom 177 = .ok (.getfield 50, 3) := by decide +kernel
theorem dX7_copyFrom_180 : decode cX7_copyFrom 180 = .ok (.iload_n 2, 1) := by decide +kernel
theorem dX7_copyFrom_181 : decode cX7_copyFrom 181 = .ok (.iaload, 1) := by decide +kernel
theorem dX7_copyFrom_182 : decode cX7_copyFrom 182 = .ok (.iastore, 1) := by decide +kernel
theorem dX7_copyFrom_183 : decode cX7_copyFrom 183 = .ok (.iinc 2 1, 3) := by decide +kernel
theorem dX7_copyFrom_186 : decode cX7_copyFrom 186 = .ok (.goto (-56), 3) := by decide +kernel
theorem dX7_copyFrom_189 : decode cX7_copyFrom 189 = .ok (.aload_n 1, 1) := by decide +kernel
theorem dX7_copyFrom_190 : decode cX7_copyFrom 190 = .ok (.getfield 53, 3) := by decide +kernel
theorem dX7_copyFrom_193 : decode cX7_copyFrom 193 = .ok (.iconst 0, 1) := by decide +kernel
theorem dX7_copyFrom_194 : decode cX7_copyFrom 194 = .ok (.aload_n 0, 1) := by decide +kernel
theorem dX7_copyFrom_195 : decode cX7_copyFrom 195 = .ok (.getfield 53, 3) := by decide +kernel
theorem dX7_copyFrom_198 : decode cX7_copyFrom 198 = .ok (.iconst 0, 1) := by decide +kernel
theorem dX7_copyFrom_199 : decode cX7_copyFrom 199 = .ok (.bipush 12, 2) := by decide +kernel
theorem dX7_copyFrom_201 : decode cX7_copyFrom 201 = .ok (.invokestatic 75, 3) := by decide +kernel
theorem dX7_copyFrom_204 : decode cX7_copyFrom 204 = .ok (.aload_n 1, 1) := by decide +kernel
theorem dX7_copyFrom_205 : decode cX7_copyFrom 205 = .ok (.getfield 56, 3) := by decide +kernel
theorem dX7_copyFrom_208 : decode cX7_copyFrom 208 = .ok (.iconst 0, 1) := by decide +kernel
theorem dX7_copyFrom_209 : decode cX7_copyFrom 209 = .ok (.aload_n 0, 1) := by decide +kernel
theorem dX7_copyFrom_210 : decode cX7_copyFrom 210 = .ok (.getfield 56, 3) := by decide +kernel
theorem dX7_copyFrom_213 : decode cX7_copyFrom 213 = .ok (.iconst 0, 1) := by decide +kernel
theorem dX7_copyFrom_214 : decode cX7_copyFrom 214 = .ok (.bipush 12, 2) := by decide +kernel
theorem dX7_copyFrom_216 : decode cX7_copyFrom 216 = .ok (.invokestatic 75, 3) := by decide +kernel
theorem dX7_copyFrom_219 : decode cX7_copyFrom 219 = .ok (.aload_n 0, 1) := by decide +kernel
theorem dX7_copyFrom_220 : decode cX7_copyFrom 220 = .ok (.aload_n 1, 1) := by decide +kernel
theorem dX7_copyFrom_221 : decode cX7_copyFrom 221 = .ok (.getfield 59, 3) := by decide +kernel
theorem dX7_copyFrom_224 : decode cX7_copyFrom 224 = .ok (.putfield 59, 3) := by decide +kernel
theorem dX7_copyFrom_227 : decode cX7_copyFrom 227 = .ok (.aload_n 0, 1) := by decide +kernel
theorem dX7_copyFrom_228 : decode cX7_copyFrom 228 = .ok (.aload_n 1, 1) := by decide +kernel
theorem dX7_copyFrom_229 : decode cX7_copyFrom 229 = .ok (.getfield 62, 3) := by decide +kernel
theorem dX7_copyFrom_232 : decode cX7_copyFrom 232 = .ok (.putfield 62, 3) := by decide +kernel
theorem dX7_copyFrom_235 : decode cX7_copyFrom 235 = .ok (.aload_n 0, 1) := by decide +kernel
theorem dX7_copyFrom_236 : decode cX7_copyFrom 236 = .ok (.aload_n 1, 1) := by decide +kernel
theorem dX7_copyFrom_237 : decode cX7_copyFrom 237 = .ok (.getfield 65, 3) := by decide +kernel
theorem dX7_copyFrom_240 : decode cX7_copyFrom 240 = .ok (.putfield 65, 3) := by decide +kernel
theorem dX7_copyFrom_243 : decode cX7_copyFrom 243 = .ok (.return_, 1) := by decide +kernel
def md_X7_copyFrom : List (Nat × Nat) := [(6, 0), (6, 15), (6, 16), (6, 17), (118, 0), (119, 0), (120, 0), (121, 0), (122, 0), (123, 0), (124, 0), (125, 0), (126, 0), (127, 0), (128, 0), (210, 0)]
set_option maxRecDepth 100000 in
set_option maxHeartbeats 4000000 in
theorem c_X7_copyFrom {l : Launch} {D : q_D} (τ : q_T) (σ : q_V) (a0 : Nat) (a1 : Nat) (hI : q_I τ σ) (tA0 : τ a0 = some (6, 1)) (tA1 : τ a1 = some (6, 1)) : q_Cv l D yX7_copyFrom cX7_copyFrom 3 none 1 26 τ σ [.ref a0, .ref a1] (fun σ1 => q_S md_X7_copyFrom τ σ σ1 ∧ (fx_N σ1 = f_X7_copyFrom (fx_N σ) a0 a1) ∧ (σ1 a0 0 = σ a1 0) ∧ (∀ b : Nat, b ≠ a0 → τ b = some (6, 1) → σ1 b 0 = σ b 0) ∧ (∀ c0 c1 c2 d0 d1 d2 : Nat, σ a0 1 = .ref c0 → σ a0 2 = .ref c1 → σ a0 3 = .ref c2 → σ a1 1 = .ref d0 → σ a1 2 = .ref d1 → σ a1 3 = .ref d2 → zz_rx τ σ σ1 c0 c1 c2 ∧ (zz_a6 c0 c1 c2 d0 d1 d2 → zz_rc σ σ1 c0 c1 c2 d0 d1 d2))) := by
  refine q_metv rfl (Nat.le_of_ble_eq_true rfl) (fun X hG hE => ?_)
  show q_O X 0 0 τ σ 0 [(0, .ref a0), (1, .ref a1)] []
  have hS0 : q_S md_X7_copyFrom τ σ σ := q_S.rf hI
  obtain ⟨Fv, hF⟩ : ∃ z, fx_eq z (f_X7_copyFrom (fx_N σ) a0 a1) := ⟨_, fx_rf⟩
  have hF0 := hF
  unfold f_X7_copyFrom at hF
  obtain ⟨q_1v, q_1f, q_1r⟩ := (hI a1 6 1 tA1 0 (by decide)).int ff_6_0
  replace hF := fx_I hF q_1f rfl
  obtain ⟨q_2b, q_2f, q_2T⟩ := (hI a0 6 1 tA0 1 (by decide)).ref (k := 118) (n := 64) rfl
  replace hF := fx_R hF q_2f rfl
  obtain ⟨q_3b, q_3f, q_3T⟩ := (hI a0 6 1 tA0 2 (by decide)).ref (k := 118) (n := 64) rfl
  replace hF := fx_R hF q_3f rfl
  obtain ⟨q_4b, q_4f, q_4T⟩ := (hI a0 6 1 tA0 3 (by decide)).ref (k := 118) (n := 64) rfl
  replace hF := fx_R hF q_4f rfl
  obtain ⟨q_5b, q_5f, q_5T⟩ := (hI a1 6 1 tA1 1 (by decide)).ref (k := 118) (n := 64) rfl
  replace hF := fx_R hF q_5f rfl
  obtain ⟨q_6b, q_6f, q_6T⟩ := (hI a1 6 1 tA1 2 (by decide)).ref (k := 118) (n := 64) rfl
  replace hF := fx_R hF q_6f rfl
  obtain ⟨q_7b, q_7f, q_7T⟩ := (hI a1 6 1 tA1 3 (by decide)).ref (k := 118) (n := 64) rfl
  replace hF := fx_R hF q_7f rfl
  refine q_aload_n (pc := 0) hG dX7_copyFrom_0 0 rfl ?_
  refine q_aload_n (pc := 1) hG dX7_copyFrom_1 1 rfl ?_
  refine q_getV (pc := 2) (v := .int q_1v) hG fl_X7_9 dX7_copyFrom_2 tA1 q_1f ?_
  refine q_putI (pc := 5) hG fl_X7_9 dX7_copyFrom_5 hS0 tA0 ff_6_0 q_1r (by decide) rfl (fun s5 u5 w5 => ?_)
  replace hF := fx_P hF u5 rfl rfl
  have m5 : s5 a0 0 = .int q_1v := by rw [u5]; exact q_up_same
  refine q_aload_n (pc := 8) hG dX7_copyFrom_8 1 rfl ?_
  refine q_getV (pc := 9) (v := .ref q_5b) hG fl_X7_15 dX7_copyFrom_9 tA1 (w5.same tA1 rfl q_5f) ?_
  refine q_iconst (pc := 12) hG dX7_copyFrom_12 ki_0 ?_
  refine q_aload_n (pc := 13) hG dX7_copyFrom_13 0 rfl ?_
  refine q_getV (pc := 14) (v := .ref q_2b) hG fl_X7_15 dX7_copyFrom_14 tA0 (w5.same tA0 rfl q_2f) ?_
  refine q_iconst (pc := 17) hG dX7_copyFrom_17 ki_0 ?_
  refine q_bipush (pc := 18) hG dX7_copyFrom_18 kb_64 ?_
  refine q_copy (pc := 20) 64 hG w492 w494 w493 w14 dX7_copyFrom_20 w5 q_5T q_2T ai_118 ai_118 (by decide) tl_64 (by decide) rfl ⟨by decide, by decide⟩ (Nat.le_of_ble_eq_true rfl) (fun s20 u20 w20 => ?_)
  replace hF := fx_K hF u20
  refine q_aload_n (pc := 23) hG dX7_copyFrom_23 1 rfl ?_
  refine q_getV (pc := 24) (v := .ref q_6b) hG fl_X7_19 dX7_copyFrom_24 tA1 (w20.same tA1 rfl q_6f) ?_
  refine q_iconst (pc := 27) hG dX7_copyFrom_27 ki_0 ?_
  refine q_aload_n (pc := 28) hG dX7_copyFrom_28 0 rfl ?_
  refine q_getV (pc := 29) (v := .ref q_3b) hG fl_X7_19 dX7_copyFrom_29 tA0 (w20.same tA0 rfl q_3f) ?_
  refine q_iconst (pc := 32) hG dX7_copyFrom_32 ki_0 ?_
  refine q_bipush (pc := 33) hG dX7_copyFrom_33 kb_64 ?_
  refine q_copy (pc := 35) 64 hG w492 w494 w493 w14 dX7_copyFrom_35 w20 q_6T q_3T ai_118 ai_118 (by decide) tl_64 (by decide) rfl ⟨by decide, by decide⟩ (Nat.le_of_ble_eq_true rfl) (fun s35 u35 w35 => ?_)
  replace hF := fx_K hF u35
  refine q_aload_n (pc := 38) hG dX7_copyFrom_38 1 rfl ?_
  refine q_getV (pc := 39) (v := .ref q_7b) hG fl_X7_22 dX7_copyFrom_39 tA1 (w35.same tA1 rfl q_7f) ?_
  refine q_iconst (pc := 42) hG dX7_copyFrom_42 ki_0 ?_
  refine q_aload_n (pc := 43) hG dX7_copyFrom_43 0 rfl ?_
  refine q_getV (pc := 44) (v := .ref q_4b) hG fl_X7_22 dX7_copyFrom_44 tA0 (w35.same tA0 rfl q_4f) ?_
  refine q_iconst (pc := 47) hG dX7_copyFrom_47 ki_0 ?_
  refine q_bipush (pc := 48) hG dX7_copyFrom_48 kb_64 ?_
  refine q_copy (pc := 50) 64 hG w492 w494 w493 w14 dX7_copyFrom_50 w35 q_7T q_4T ai_118 ai_118 (by decide) tl_64 (by decide) rfl ⟨by decide, by decide⟩ (Nat.le_of_ble_eq_true rfl) (fun s50 u50 w50 => ?_)
  replace hF := fx_K hF u50
  refine q_aload_n (pc := 53) hG dX7_copyFrom_53 1 rfl ?_
  refine q_getR (pc := 54) (k2 := 119) (n2 := 64) hG fl_X7_25 dX7_copyFrom_54 w50.1 tA1 ff_6_4 (fun b54 f54 T54 => ?_)
  replace hF := fx_R hF f54 rfl
  have f_8 := (w50.2 _ _ _ _ tA1 rfl).symm.trans f54
  refine q_iconst (pc := 57) hG dX7_copyFrom_57 ki_0 ?_
  refine q_aload_n (pc := 58) hG dX7_copyFrom_58 0 rfl ?_
  refine q_getR (pc := 59) (k2 := 119) (n2 := 64) hG fl_X7_25 dX7_copyFrom_59 w50.1 tA0 ff_6_4 (fun b59 f59 T59 => ?_)
  replace hF := fx_R hF f59 rfl
  have f_9 := (w50.2 _ _ _ _ tA0 rfl).symm.trans f59
  refine q_iconst (pc := 62) hG dX7_copyFrom_62 ki_0 ?_
  refine q_bipush (pc := 63) hG dX7_copyFrom_63 kb_64 ?_
  refine q_copy (pc := 65) 64 hG w492 w494 w493 w14 dX7_copyFrom_65 w50 T54 T59 ai_119 ai_119 (by decide) tl_64 (by decide) rfl ⟨by decide, by decide⟩ (Nat.le_of_ble_eq_true rfl) (fun s65 u65 w65 => ?_)
  replace hF := fx_K hF u65
  refine q_aload_n (pc := 68) hG dX7_copyFrom_68 1 rfl ?_
  refine q_getR (pc := 69) (k2 := 120) (n2 := 64) hG fl_X7_28 dX7_copyFrom_69 w65.1 tA1 ff_6_5 (fun b69 f69 T69 => ?_)
  replace hF := fx_R hF f69 rfl
  have f_10 := (w65.2 _ _ _ _ tA1 rfl).symm.trans f69
  refine q_iconst (pc := 72) hG dX7_copyFrom_72 ki_0 ?_
  refine q_aload_n (pc := 73) hG dX7_copyFrom_73 0 rfl ?_
  refine q_getR (pc := 74) (k2 := 120) (n2 := 64) hG fl_X7_28 dX7_copyFrom_74 w65.1 tA0 ff_6_5 (fun b74 f74 T74 => ?_)
  replace hF := fx_R hF f74 rfl
  have f_11 := (w65.2 _ _ _ _ tA0 rfl).symm.trans f74
  refine q_iconst (pc := 77) hG dX7_copyFrom_77 ki_0 ?_
  refine q_bipush (pc := 78) hG dX7_copyFrom_78 kb_64 ?_
  refine q_copy (pc := 80) 64 hG w492 w494 w493 w14 dX7_copyFrom_80 w65 T69 T74 ai_120 ai_120 (by decide) tl_64 (by decide) rfl ⟨by decide, by decide⟩ (Nat.le_of_ble_eq_true rfl) (fun s80 u80 w80 => ?_)
  replace hF := fx_K hF u80
  refine q_aload_n (pc := 83) hG dX7_copyFrom_83 1 rfl ?_
  refine q_getR (pc := 84) (k2 := 121) (n2 := 64) hG fl_X7_31 dX7_copyFrom_84 w80.1 tA1 ff_6_6 (fun b84 f84 T84 => ?_)
  replace hF := fx_R hF f84 rfl
  have f_12 := (w80.2 _ _ _ _ tA1 rfl).symm.trans f84
  refine q_iconst (pc := 87) hG dX7_copyFrom_87 ki_0 ?_
  refine q_aload_n (pc := 88) hG dX7_copyFrom_88 0 rfl ?_
  refine q_getR (pc := 89) (k2 := 121) (n2 := 64) hG fl_X7_31 dX7_copyFrom_89 w80.1 tA0 ff_6_6 (fun b89 f89 T89 => ?_)
  replace hF := fx_R hF f89 rfl
  have f_13 := (w80.2 _ _ _ _ tA0 rfl).symm.trans f89
  refine q_iconst (pc := 92) hG dX7_copyFrom_92 ki_0 ?_
  refine q_bipush (pc := 93) hG dX7_copyFrom_93 kb_64 ?_
  refine q_copy (pc := 95) 64 hG w492 w494 w493 w14 dX7_copyFrom_95 w80 T84 T89 ai_121 ai_121 (by decide) tl_64 (by decide) rfl ⟨by decide, by decide⟩ (Nat.le_of_ble_eq_true rfl) (fun s95 u95 w95 => ?_)
  replace hF := fx_K hF u95
  refine q_aload_n (pc := 98) hG dX7_copyFrom_98 1 rfl ?_
  refine q_getR (pc := 99) (k2 := 122) (n2 := 64) hG fl_X7_34 dX7_copyFrom_99 w95.1 tA1 ff_6_7 (fun b99 f99 T99 => ?_)
  replace hF := fx_R hF f99 rfl
  have f_14 := (w95.2 _ _ _ _ tA1 rfl).symm.trans f99
  refine q_iconst (pc := 102) hG dX7_copyFrom_102 ki_0 ?_
  refine q_aload_n (pc := 103) hG dX7_copyFrom_103 0 rfl ?_
  refine q_getR (pc := 104) (k2 := 122) (n2 := 64) hG fl_X7_34 dX7_copyFrom_104 w95.1 tA0 ff_6_7 (fun b104 f104 T104 => ?_)
  replace hF := fx_R hF f104 rfl
  have f_15 := (w95.2 _ _ _ _ tA0 rfl).symm.trans f104
  refine q_iconst (pc := 107) hG dX7_copyFrom_107 ki_0 ?_
  refine q_bipush (pc := 108) hG dX7_copyFrom_108 kb_64 ?_
  refine q_copy (pc := 110) 64 hG w492 w494 w493 w14 dX7_copyFrom_110 w95 T99 T104 ai_122 ai_122 (by decide) tl_64 (by decide) rfl ⟨by decide, by decide⟩ (Nat.le_of_ble_eq_true rfl) (fun s110 u110 w110 => ?_)
  replace hF := fx_K hF u110
  refine q_aload_n (pc := 113) hG dX7_copyFrom_113 1 rfl ?_
  refine q_getR (pc := 114) (k2 := 123) (n2 := 64) hG fl_X7_37 dX7_copyFrom_114 w110.1 tA1 ff_6_8 (fun b114 f114 T114 => ?_)
  replace hF := fx_R hF f114 rfl
  have f_16 := (w110.2 _ _ _ _ tA1 rfl).symm.trans f114
  refine q_iconst (pc := 117) hG dX7_copyFrom_117 ki_0 ?_
  refine q_aload_n (pc := 118) hG dX7_copyFrom_118 0 rfl ?_
  refine q_getR (pc := 119) (k2 := 123) (n2 := 64) hG fl_X7_37 dX7_copyFrom_119 w110.1 tA0 ff_6_8 (fun b119 f119 T119 => ?_)
  replace hF := fx_R hF f119 rfl
  have f_17 := (w110.2 _ _ _ _ tA0 rfl).symm.trans f119
  refine q_iconst (pc := 122) hG dX7_copyFrom_122 ki_0 ?_
  refine q_bipush (pc := 123) hG dX7_copyFrom_123 kb_64 ?_
  refine q_copy (pc := 125) 64 hG w492 w494 w493 w14 dX7_copyFrom_125 w110 T114 T119 ai_123 ai_123 (by decide) tl_64 (by decide) rfl ⟨by decide, by decide⟩ (Nat.le_of_ble_eq_true rfl) (fun s125 u125 w125 => ?_)
  replace hF := fx_K hF u125
  refine q_iconst (pc := 128) hG dX7_copyFrom_128 ki_0 ?_
  refine q_istore_n (pc := 129) [(2, .int 0), (0, .ref a0), (1, .ref a1)] hG dX7_copyFrom_129 (by decide) rfl ?_
  have J130 : ∀ (n130 : Nat) (p130_2 : Int32) (σ130 : q_V), (q_r p130_2 0 2) → (q_S md_X7_copyFrom τ σ σ130) → (σ130 a0 0 = .int q_1v ∧ ∀ b : Nat, b ≠ a0 → τ b = some (6, 1) → σ130 b 0 = σ b 0) → (zz_rx τ σ σ130 q_2b q_3b q_4b ∧ (zz_a6 q_2b q_3b q_4b q_5b q_6b q_7b → zz_rc σ σ130 q_2b q_3b q_4b q_5b q_6b q_7b)) → (fx_eq Fv (kL_X7_copyFrom_130 a0 a1 n130 p130_2.toInt (fx_N σ130))) → ((2 - p130_2.toInt).toNat < n130) → q_O X 0 0 τ σ130 130 [(0, .ref a0), (1, .ref a1), (2, .int p130_2)] [] := by
    intro n130
    induction n130 with
    | zero => intro p130_2 σ130 r130_2 hS130 iF0_130 iRC130 hF hm130; exact absurd hm130 (Nat.not_lt_zero _)
    | succ n130 ih130 =>
      intro p130_2 σ130 r130_2 hS130 iF0_130 iRC130 hF hm130
      replace hF := (show fx_eq Fv (kB_X7_copyFrom_130 (kL_X7_copyFrom_130 a0 a1 n130) a0 a1 p130_2.toInt (fx_N σ130)) from hF)
      unfold kB_X7_copyFrom_130 at hF
      refine q_iload_n (pc := 130) hG dX7_copyFrom_130 2 rfl ?_
      refine q_iconst (pc := 131) hG dX7_copyFrom_131 ki_2 ?_
      refine q_icmp_ge (pc := 132) hG 189 dX7_copyFrom_132 rfl ?_ ?_
      · intro c132
        replace hF := fx_lt2 hF rfl tl_2 c132
        refine q_aload_n (pc := 189) hG dX7_copyFrom_189 1 rfl ?_
        refine q_getR (pc := 190) (k2 := 127) (n2 := 12) hG fl_X7_53 dX7_copyFrom_190 hS130.1 tA1 ff_6_13 (fun b190 f190 T190 => ?_)
        replace hF := fx_R hF f190 rfl
        have f_18 := (hS130.2 _ _ _ _ tA1 rfl).symm.trans f190
        refine q_iconst (pc := 193) hG dX7_copyFrom_193 ki_0 ?_
        refine q_aload_n (pc := 194) hG dX7_copyFrom_194 0 rfl ?_
        refine q_getR (pc := 195) (k2 := 127) (n2 := 12) hG fl_X7_53 dX7_copyFrom_195 hS130.1 tA0 ff_6_13 (fun b195 f195 T195 => ?_)
        replace hF := fx_R hF f195 rfl
        have f_19 := (hS130.2 _ _ _ _ tA0 rfl).symm.trans f195
        refine q_iconst (pc := 198) hG dX7_copyFrom_198 ki_0 ?_
        refine q_bipush (pc := 199) hG dX7_copyFrom_199 kb_12 ?_
        refine q_copy (pc := 201) 12 hG w492 w494 w493 w14 dX7_copyFrom_201 hS130 T190 T195 ai_127 ai_127 (by decide) tl_12 (by decide) rfl ⟨by decide, by decide⟩ (Nat.le_of_ble_eq_true rfl) (fun s201 u201 w201 => ?_)
        replace hF := fx_K hF u201
        refine q_aload_n (pc := 204) hG dX7_copyFrom_204 1 rfl ?_
        refine q_getR (pc := 205) (k2 := 128) (n2 := 12) hG fl_X7_56 dX7_copyFrom_205 w201.1 tA1 ff_6_14 (fun b205 f205 T205 => ?_)
        replace hF := fx_R hF f205 rfl
        have f_20 := (w201.2 _ _ _ _ tA1 rfl).symm.trans f205
        refine q_iconst (pc := 208) hG dX7_copyFrom_208 ki_0 ?_
        refine q_aload_n (pc := 209) hG dX7_copyFrom_209 0 rfl ?_
        refine q_getR (pc := 210) (k2 := 128) (n2 := 12) hG fl_X7_56 dX7_copyFrom_210 w201.1 tA0 ff_6_14 (fun b210 f210 T210 => ?_)
        replace hF := fx_R hF f210 rfl
        have f_21 := (w201.2 _ _ _ _ tA0 rfl).symm.trans f210
        refine q_iconst (pc := 213) hG dX7_copyFrom_213 ki_0 ?_
        refine q_bipush (pc := 214) hG dX7_copyFrom_214 kb_12 ?_
        refine q_copy (pc := 216) 12 hG w492 w494 w493 w14 dX7_copyFrom_216 w201 T205 T210 ai_128 ai_128 (by decide) tl_12 (by decide) rfl ⟨by decide, by decide⟩ (Nat.le_of_ble_eq_true rfl) (fun s216 u216 w216 => ?_)
        replace hF := fx_K hF u216
        refine q_aload_n (pc := 219) hG dX7_copyFrom_219 0 rfl ?_
        refine q_aload_n (pc := 220) hG dX7_copyFrom_220 1 rfl ?_
        refine q_getI (pc := 221) hG fl_X7_59 dX7_copyFrom_221 w216.1 tA1 ff_6_15 (fun v221 f221 g221 => ?_)
        replace hF := fx_I hF f221 rfl
        refine q_putI (pc := 224) hG fl_X7_59 dX7_copyFrom_224 w216 tA0 ff_6_15 g221 (by decide) rfl (fun s224 u224 w224 => ?_)
        replace hF := fx_P hF u224 rfl rfl
        have m224 : s224 a0 15 = .int v221 := by rw [u224]; exact q_up_same
        refine q_aload_n (pc := 227) hG dX7_copyFrom_227 0 rfl ?_
        refine q_aload_n (pc := 228) hG dX7_copyFrom_228 1 rfl ?_
        refine q_getI (pc := 229) hG fl_X7_62 dX7_copyFrom_229 w224.1 tA1 ff_6_16 (fun v229 f229 g229 => ?_)
        replace hF := fx_I hF f229 rfl
        refine q_putI (pc := 232) hG fl_X7_62 dX7_copyFrom_232 w224 tA0 ff_6_16 g229 (by decide) rfl (fun s232 u232 w232 => ?_)
        replace hF := fx_P hF u232 rfl rfl
        have m232 : s232 a0 16 = .int v229 := by rw [u232]; exact q_up_same
        refine q_aload_n (pc := 235) hG dX7_copyFrom_235 0 rfl ?_
        refine q_aload_n (pc := 236) hG dX7_copyFrom_236 1 rfl ?_
        refine q_getI (pc := 237) hG fl_X7_65 dX7_copyFrom_237 w232.1 tA1 ff_6_17 (fun v237 f237 g237 => ?_)
        replace hF := fx_I hF f237 rfl
        refine q_putI (pc := 240) hG fl_X7_65 dX7_copyFrom_240 w232 tA0 ff_6_17 g237 (by decide) rfl (fun s240 u240 w240 => ?_)
        replace hF := fx_P hF u240 rfl rfl
        have m240 : s240 a0 17 = .int v237 := by rw [u240]; exact q_up_same
        exact q_vrt hG hE dX7_copyFrom_243 ⟨w240, (fx_end hF hF0), (Eq.trans (show s240 a0 0 = .int q_1v from (by rw [u240]; exact (q_up_else (Or.inr (by decide))).trans (by rw [u232]; exact (q_up_else (Or.inr (by decide))).trans (by rw [u224]; exact (q_up_else (Or.inr (by decide))).trans (by rw [u216]; exact (q_cpK tA0 T210 (by decide)).trans (by rw [u201]; exact (q_cpK tA0 T195 (by decide)).trans iF0_130.1)))))) (Eq.symm q_1f)), (fun b hb hT => by rw [u240, q_up_ne hb, u232, q_up_ne hb, u224, q_up_ne hb, u216, q_cpK hT T210 (by decide), u201, q_cpK hT T195 (by decide)]; exact iF0_130.2 b hb hT), (fun c0 c1 c2 d0 d1 d2 h0 h1 h2 g0 g1 g2 => by cases h0.symm.trans q_2f; cases h1.symm.trans q_3f; cases h2.symm.trans q_4f; cases g0.symm.trans q_5f; cases g1.symm.trans q_6f; cases g2.symm.trans q_7f; exact ⟨(zz_rx.S (zz_rx.S (zz_rx.S (zz_rx.S (zz_rx.S iRC130.1 (fun _ hc => (zz_sY u201 T195 (by decide) hc))) (fun _ hc => (zz_sY u216 T210 (by decide) hc))) (fun _ hc => (zz_sP u224 tA0 (by decide) hc))) (fun _ hc => (zz_sP u232 tA0 (by decide) hc))) (fun _ hc => (zz_sP u240 tA0 (by decide) hc))), fun ap => (zz_rc.S (zz_rc.S (zz_rc.S (zz_rc.S (zz_rc.S (iRC130.2 ap) (zz_sY u201 T195 (by decide) q_2T) (zz_sY u201 T195 (by decide) q_3T) (zz_sY u201 T195 (by decide) q_4T)) (zz_sY u216 T210 (by decide) q_2T) (zz_sY u216 T210 (by decide) q_3T) (zz_sY u216 T210 (by decide) q_4T)) (zz_sP u224 tA0 (by decide) q_2T) (zz_sP u224 tA0 (by decide) q_3T) (zz_sP u224 tA0 (by decide) q_4T)) (zz_sP u232 tA0 (by decide) q_2T) (zz_sP u232 tA0 (by decide) q_3T) (zz_sP u232 tA0 (by decide) q_4T)) (zz_sP u240 tA0 (by decide) q_2T) (zz_sP u240 tA0 (by decide) q_3T) (zz_sP u240 tA0 (by decide) q_4T))⟩)⟩
      intro c132
      replace hF := fx_lt1 hF rfl tl_2 c132
      refine q_aload_n (pc := 135) hG dX7_copyFrom_135 0 rfl ?_
      refine q_getR (pc := 136) (k2 := 210) (n2 := 2) hG fl_X7_40 dX7_copyFrom_136 hS130.1 tA0 ff_6_9 (fun b136 f136 T136 => ?_)
      replace hF := fx_R hF f136 rfl
      have f_22 := (hS130.2 _ _ _ _ tA0 rfl).symm.trans f136
      refine q_iload_n (pc := 139) hG dX7_copyFrom_139 2 rfl ?_
      refine q_aload_n (pc := 140) hG dX7_copyFrom_140 1 rfl ?_
      refine q_getR (pc := 141) (k2 := 210) (n2 := 2) hG fl_X7_40 dX7_copyFrom_141 hS130.1 tA1 ff_6_9 (fun b141 f141 T141 => ?_)
      replace hF := fx_R hF f141 rfl
      have f_23 := (hS130.2 _ _ _ _ tA1 rfl).symm.trans f141
      refine q_iload_n (pc := 144) hG dX7_copyFrom_144 2 rfl ?_
      have r_24 := q_rlt r130_2 rl_2 c132 1 (by decide)
      refine q_zald (pc := 145) hG dX7_copyFrom_145 hS130.1 ai_210 T141 (q_ix r_24 (by decide)) (fun v145 f145 g145 => ?_)
      replace hF := fx_I hF f145 rfl
      refine q_zast (pc := 146) hG dX7_copyFrom_146 hS130 ai_210 T136 (q_ix r_24 (by decide)) g145 rfl (fun s146 u146 w146 => ?_)
      replace hF := fx_P hF u146 rfl rfl
      have m146 : s146 b136 p130_2.toInt.toNat = .int v145 := by rw [u146]; exact q_up_same
      refine q_aload_n (pc := 147) hG dX7_copyFrom_147 0 rfl ?_
      refine q_getR (pc := 148) (k2 := 124) (n2 := 2) hG fl_X7_44 dX7_copyFrom_148 w146.1 tA0 ff_6_10 (fun b148 f148 T148 => ?_)
      replace hF := fx_R hF f148 rfl
      have f_25 := (w146.2 _ _ _ _ tA0 rfl).symm.trans f148
      refine q_iload_n (pc := 151) hG dX7_copyFrom_151 2 rfl ?_
      refine q_aload_n (pc := 152) hG dX7_copyFrom_152 1 rfl ?_
      refine q_getR (pc := 153) (k2 := 124) (n2 := 2) hG fl_X7_44 dX7_copyFrom_153 w146.1 tA1 ff_6_10 (fun b153 f153 T153 => ?_)
      replace hF := fx_R hF f153 rfl
      have f_26 := (w146.2 _ _ _ _ tA1 rfl).symm.trans f153
      refine q_iload_n (pc := 156) hG dX7_copyFrom_156 2 rfl ?_
      refine q_iald (pc := 157) hG dX7_copyFrom_157 w146.1 ai_124 T153 (q_ix r_24 (by decide)) (fun v157 f157 g157 => ?_)
      replace hF := fx_I hF f157 rfl
      refine q_iast (pc := 158) hG dX7_copyFrom_158 w146 ai_124 T148 (q_ix r_24 (by decide)) g157 (by decide) rfl (fun s158 u158 w158 => ?_)
      replace hF := fx_P hF u158 rfl rfl
      have m158 : s158 b148 p130_2.toInt.toNat = .int v157 := by rw [u158]; exact q_up_same
      refine q_aload_n (pc := 159) hG dX7_copyFrom_159 0 rfl ?_
      refine q_getR (pc := 160) (k2 := 125) (n2 := 2) hG fl_X7_47 dX7_copyFrom_160 w158.1 tA0 ff_6_11 (fun b160 f160 T160 => ?_)
      replace hF := fx_R hF f160 rfl
      have f_27 := (w158.2 _ _ _ _ tA0 rfl).symm.trans f160
      refine q_iload_n (pc := 163) hG dX7_copyFrom_163 2 rfl ?_
      refine q_aload_n (pc := 164) hG dX7_copyFrom_164 1 rfl ?_
      refine q_getR (pc := 165) (k2 := 125) (n2 := 2) hG fl_X7_47 dX7_copyFrom_165 w158.1 tA1 ff_6_11 (fun b165 f165 T165 => ?_)
      replace hF := fx_R hF f165 rfl
      have f_28 := (w158.2 _ _ _ _ tA1 rfl).symm.trans f165
      refine q_iload_n (pc := 168) hG dX7_copyFrom_168 2 rfl ?_
      refine q_iald (pc := 169) hG dX7_copyFrom_169 w158.1 ai_125 T165 (q_ix r_24 (by decide)) (fun v169 f169 g169 => ?_)
      replace hF := fx_I hF f169 rfl
      refine q_iast (pc := 170) hG dX7_copyFrom_170 w158 ai_125 T160 (q_ix r_24 (by decide)) g169 (by decide) rfl (fun s170 u170 w170 => ?_)
      replace hF := fx_P hF u170 rfl rfl
      have m170 : s170 b160 p130_2.toInt.toNat = .int v169 := by rw [u170]; exact q_up_same
      refine q_aload_n (pc := 171) hG dX7_copyFrom_171 0 rfl ?_
      refine q_getR (pc := 172) (k2 := 126) (n2 := 2) hG fl_X7_50 dX7_copyFrom_172 w170.1 tA0 ff_6_12 (fun b172 f172 T172 => ?_)
      replace hF := fx_R hF f172 rfl
      have f_29 := (w170.2 _ _ _ _ tA0 rfl).symm.trans f172
      refine q_iload_n (pc := 175) hG dX7_copyFrom_175 2 rfl ?_
      refine q_aload_n (pc := 176) hG dX7_copyFrom_176 1 rfl ?_
      refine q_getR (pc := 177) (k2 := 126) (n2 := 2) hG fl_X7_50 dX7_copyFrom_177 w170.1 tA1 ff_6_12 (fun b177 f177 T177 => ?_)
      replace hF := fx_R hF f177 rfl
      have f_30 := (w170.2 _ _ _ _ tA1 rfl).symm.trans f177
      refine q_iload_n (pc := 180) hG dX7_copyFrom_180 2 rfl ?_
      refine q_iald (pc := 181) hG dX7_copyFrom_181 w170.1 ai_126 T177 (q_ix r_24 (by decide)) (fun v181 f181 g181 => ?_)
      replace hF := fx_I hF f181 rfl
      refine q_iast (pc := 182) hG dX7_copyFrom_182 w170 ai_126 T172 (q_ix r_24 (by decide)) g181 (by decide) rfl (fun s182 u182 w182 => ?_)
      replace hF := fx_P hF u182 rfl rfl
      have m182 : s182 b172 p130_2.toInt.toNat = .int v181 := by rw [u182]; exact q_up_same
      obtain ⟨v183, e183⟩ : ∃ z : Int32, z = p130_2 + Int32.ofInt 1 := ⟨_, rfl⟩
      have h183 := q_incN (lo := 1) (hi := 2) r_24 (by decide) (by decide) e183
      replace hF := fx_add hF rfl rfl h183.1
      refine q_iinc (pc := 183) [(2, .int v183), (0, .ref a0), (1, .ref a1)] hG dX7_copyFrom_183 2 rfl e183 (by decide) rfl ?_
      refine q_goto (pc := 186) 130 hG dX7_copyFrom_186 rfl ?_
      refine q_lv [1, 2, 0] rfl ?_
      exact ih130 v183 s182 (q_r.mono h183.2 (by decide)) w182 ⟨(by rw [u182]; exact (q_keepK tA0 T172 (by decide)).trans (by rw [u170]; exact (q_keepK tA0 T160 (by decide)).trans (by rw [u158]; exact (q_keepK tA0 T148 (by decide)).trans (by rw [u146]; exact (q_keepK tA0 T136 (by decide)).trans iF0_130.1)))), (fun b hb hT => by rw [u182, q_keepK hT T172 (by decide), u170, q_keepK hT T160 (by decide), u158, q_keepK hT T148 (by decide), u146, q_keepK hT T136 (by decide)]; exact iF0_130.2 b hb hT)⟩ ⟨(zz_rx.S (zz_rx.S (zz_rx.S (zz_rx.S iRC130.1 (fun _ hc => (zz_sP u146 T136 (by decide) hc))) (fun _ hc => (zz_sP u158 T148 (by decide) hc))) (fun _ hc => (zz_sP u170 T160 (by decide) hc))) (fun _ hc => (zz_sP u182 T172 (by decide) hc))), fun ap => (zz_rc.S (zz_rc.S (zz_rc.S (zz_rc.S (iRC130.2 ap) (zz_sP u146 T136 (by decide) q_2T) (zz_sP u146 T136 (by decide) q_3T) (zz_sP u146 T136 (by decide) q_4T)) (zz_sP u158 T148 (by decide) q_2T) (zz_sP u158 T148 (by decide) q_3T) (zz_sP u158 T148 (by decide) q_4T)) (zz_sP u170 T160 (by decide) q_2T) (zz_sP u170 T160 (by decide) q_3T) (zz_sP u170 T160 (by decide) q_4T)) (zz_sP u182 T172 (by decide) q_2T) (zz_sP u182 T172 (by decide) q_3T) (zz_sP u182 T172 (by decide) q_4T))⟩ hF (q_measU hm130 (by have o0 := c132; have o1 := h183.1; have o2 := r_24; have o3 := h183.2; have l4 := tl_2; unfold q_r at o2 o3; omega) (h183.2).2)
  refine q_lv [1, 2, 0] rfl ?_
  exact J130 ((2 - (0 : Int32).toInt).toNat + 1) 0 s125 (q_r.mono rl_0 (by decide)) w125 ⟨(by rw [u125]; exact (q_cpK tA0 T119 (by decide)).trans (by rw [u110]; exact (q_cpK tA0 T104 (by decide)).trans (by rw [u95]; exact (q_cpK tA0 T89 (by decide)).trans (by rw [u80]; exact (q_cpK tA0 T74 (by decide)).trans (by rw [u65]; exact (q_cpK tA0 T59 (by decide)).trans (by rw [u50]; exact (q_cpK tA0 q_4T (by decide)).trans (by rw [u35]; exact (q_cpK tA0 q_3T (by decide)).trans (by rw [u20]; exact (q_cpK tA0 q_2T (by decide)).trans m5)))))))), (fun b hb hT => by rw [u125, q_cpK hT T119 (by decide), u110, q_cpK hT T104 (by decide), u95, q_cpK hT T89 (by decide), u80, q_cpK hT T74 (by decide), u65, q_cpK hT T59 (by decide), u50, q_cpK hT q_4T (by decide), u35, q_cpK hT q_3T (by decide), u20, q_cpK hT q_2T (by decide), u5, q_up_ne hb])⟩ ⟨(zz_rx.S (zz_rx.S (zz_rx.S (zz_rx.S (zz_rx.S (zz_rx.Y (zz_rx.Y (zz_rx.Y (zz_rx.S zz_rx.rf (fun _ hc => (zz_sP u5 tA0 (by decide) hc))) u20 (Or.inl rfl)) u35 (Or.inr (Or.inl rfl))) u50 (Or.inr (Or.inr rfl))) (fun _ hc => (zz_sY u65 T59 (by decide) hc))) (fun _ hc => (zz_sY u80 T74 (by decide) hc))) (fun _ hc => (zz_sY u95 T89 (by decide) hc))) (fun _ hc => (zz_sY u110 T104 (by decide) hc))) (fun _ hc => (zz_sY u125 T119 (by decide) hc))), fun ap => (zz_rc.S (zz_rc.S (zz_rc.S (zz_rc.S (zz_rc.S (zz_rc.B (zz_rc.it u20 u35 u50 ap) (zz_sP u5 tA0 (by decide) q_5T) (zz_sP u5 tA0 (by decide) q_6T) (zz_sP u5 tA0 (by decide) q_7T)) (zz_sY u65 T59 (by decide) q_2T) (zz_sY u65 T59 (by decide) q_3T) (zz_sY u65 T59 (by decide) q_4T)) (zz_sY u80 T74 (by decide) q_2T) (zz_sY u80 T74 (by decide) q_3T) (zz_sY u80 T74 (by decide) q_4T)) (zz_sY u95 T89 (by decide) q_2T) (zz_sY u95 T89 (by decide) q_3T) (zz_sY u95 T89 (by decide) q_4T)) (zz_sY u110 T104 (by decide) q_2T) (zz_sY u110 T104 (by decide) q_3T) (zz_sY u110 T104 (by decide) q_4T)) (zz_sY u125 T119 (by decide) q_2T) (zz_sY u125 T119 (by decide) q_3T) (zz_sY u125 T119 (by decide) q_4T))⟩ (by rw [tl_0]; exact hF) (Nat.lt_succ_self _)
