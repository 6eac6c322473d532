/-! the reference is made -/
theorem dX12_init_0 : decode cX12_init 0 = .ok (.aload_n 0, 1) := by decide +kernel
theorem dX12_init_1 : decode cX12_init 1 = .ok (.invokespecial 1, 3) := by decide +kernel
theorem dX12_init_4 : decode cX12_init 4 = .ok (.aload_n 0, 1) := by decide +kernel
theorem dX12_init_5 : decode cX12_init 5 = .ok (.sipush 549, 3) := by decide +kernel
theorem dX12_init_8 : decode cX12_init 8 = .ok (.newarray .int, 2) := by decide +kernel
theorem dX12_init_10 : decode cX12_init 10 = .ok (.putfield 7, 3) := by decide +kernel
theorem dX12_init_13 : decode cX12_init 13 = .ok (.aload_n 0, 1) := by decide +kernel
theorem dX12_init_14 : decode cX12_init 14 = .ok (.sipush 549, 3) := by decide +kernel
theorem dX12_init_17 : decode cX12_init 17 = .ok (.newarray .int, 2) := by decide +kernel
theorem dX12_init_19 : decode cX12_init 19 = .ok (.putfield 13, 3) := by decide +kernel
theorem dX12_init_22 : decode cX12_init 22 = .ok (.aload_n 0, 1) := by decide +kernel
theorem dX12_init_23 : decode cX12_init 23 = .ok (.sipush 549, 3) := by decide +kernel
theorem dX12_init_26 : decode cX12_init 26 = .ok (.newarray .int, 2) := by decide +kernel
theorem dX12_init_28 : decode cX12_init 28 = .ok (.putfield 16, 3) := by decide +kernel
theorem dX12_init_31 : decode cX12_init 31 = .ok (.aload_n 0, 1) := by decide +kernel
theorem dX12_init_32 : decode cX12_init 32 = .ok (.sipush 260, 3) := by decide +kernel
theorem dX12_init_35 : decode cX12_init 35 = .ok (.newarray .byte, 2) := by decide +kernel
theorem dX12_init_37 : decode cX12_init 37 = .ok (.putfield 19, 3) := by decide +kernel
theorem dX12_init_40 : decode cX12_init 40 = .ok (.aload_n 0, 1) := by decide +kernel
theorem dX12_init_41 : decode cX12_init 41 = .ok (.sipush 260, 3) := by decide +kernel
theorem dX12_init_44 : decode cX12_init 44 = .ok (.newarray .int, 2) := by decide +kernel
theorem dX12_init_46 : decode cX12_init 46 = .ok (.putfield 23, 3) := by decide +kernel
theorem dX12_init_49 : decode cX12_init 49 = .ok (.aload_n 0, 1) := by decide +kernel
theorem dX12_init_50 : decode cX12_init 50 = .ok (.sipush 260, 3) := by decide +kernel
theorem dX12_init_53 : decode cX12_init 53 = .ok (.newarray .int, 2) := by decide +kernel
theorem dX12_init_55 : decode cX12_init 55 = .ok (.putfield 26, 3) := by decide +kernel
theorem dX12_init_58 : decode cX12_init 58 = .ok (.aload_n 0, 1) := by decide +kernel
theorem dX12_init_59 : decode cX12_init 59 = .ok (.bipush 16, 2) := by decide +kernel
theorem dX12_init_61 : decode cX12_init 61 = .ok (.newarray .int, 2) := by decide +kernel
theorem dX12_init_63 : decode cX12_init 63 = .ok (.putfield 29, 3) := by decide +kernel
theorem dX12_init_66 : decode cX12_init 66 = .ok (.aload_n 0, 1) := by decide +kernel
theorem dX12_init_67 : decode cX12_init 67 = .ok (.bipush 16, 2) := by decide +kernel
theorem dX12_init_69 : decode cX12_init 69 = .ok (.newarray .int, 2) := by decide +kernel
theorem dX12_init_71 : decode cX12_init 71 = .ok (.putfield 32, 3) := by decide +kernel
theorem dX12_init_74 : decode cX12_init 74 = .ok (.aload_n 0, 1) := by decide +kernel
theorem dX12_init_75 : decode cX12_init 75 = .ok (.bipush 16, 2) := by decide +kernel
theorem dX12_init_77 : decode cX12_init 77 = .ok (.newarray .int, 2) := by decide +kernel
theorem dX12_init_79 : decode cX12_init 79 = .ok (.putfield 35, 3) := by decide +kernel
theorem dX12_init_82 : decode cX12_init 82 = .ok (.aload_n 0, 1) := by decide +kernel
theorem dX12_init_83 : decode cX12_init 83 = .ok (.bipush 16, 2) := by decide +kernel
theorem dX12_init_85 : decode cX12_init 85 = .ok (.newarray .int, 2) := by decide +kernel
theorem dX12_init_87 : decode cX12_init 87 = .ok (.putfield 38, 3) := by decide +kernel
theorem dX12_init_90 : decode cX12_init 90 = .ok (.aload_n 0, 1) := by decide +kernel
theorem dX12_init_91 : decode cX12_init 91 = .ok (.sipush 260, 3) := by decide +kernel
theorem dX12_init_94 : decode cX12_init 94 = .ok (.newarray .int, 2) := by decide +kernel
theorem dX12_init_96 : decode cX12_init 96 = .ok (.putfield 41, 3) := by decide +kernel
theorem dX12_init_99 : decode cX12_init 99 = .ok (.aload_n 0, 1) := by decide +kernel
theorem dX12_init_100 : decode cX12_init 100 = .ok (.bipush 16, 2) := by decide +kernel
theorem dX12_init_102 : decode cX12_init 102 = .ok (.newarray .int, 2) := by decide +kernel
theorem dX12_init_104 : decode cX12_init 104 = .ok (.putfield 44, 3) := by decide +kernel
theorem dX12_init_107 : decode cX12_init 107 = .ok (.aload_n 0, 1) := by decide +kernel
theorem dX12_init_108 : decode cX12_init 108 = .ok (.bipush 16, 2) := by decide +kernel
theorem dX12_init_110 : decode cX12_init 110 = .ok (.newarray .int, 2) := by decide +kernel
theorem dX12_init_112 : decode cX12_init 112 = .ok (.putfield 47, 3) := by decide +kernel
theorem dX12_init_115 : decode cX12_init 115 = .ok (.aload_n 0, 1) := by decide +kernel
theorem dX12_init_116 : decode cX12_init 116 = .ok (.bipush 16, 2) := by decide +kernel
theorem dX12_init_118 : decode cX12_init 118 = .ok (.newarray .int, 2) := by decide +kernel
theorem dX12_init_120 : decode cX12_init 120 = .ok (.putfield 50, 3) := by decide +kernel
theorem dX12_init_123 : decode cX12_init 123 = .ok (.aload_n 0, 1) := by decide +kernel
theorem dX12_init_124 : decode cX12_init 124 = .ok (.bipush 16, 2) := by decide +kernel
theorem dX12_init_126 : decode cX12_init 126 = .ok (.newarray .int, 2) := by decide +kernel
theorem dX12_init_128 : decode cX12_init 128 = .ok (.putfield 53, 3) := by decide +kernel
theorem dX12_init_131 : decode cX12_init 131 = .ok (.aload_n 0, 1) := by decide +kernel
theorem dX12_init_132 : decode cX12_init 132 = .ok (.bipush 64, 2) := by decide +kernel
theorem dX12_init_134 : decode cX12_init 134 = .ok (.newarray .int, 2) := by decide +kernel
theorem dX12_init_136 : decode cX12_init 136 = .ok (.putfield 56, 3) := by decide +kernel
theorem dX12_init_139 : decode cX12_init 139 = .ok (.aload_n 0, 1) := by decide +kernel
theorem dX12_init_140 : decode cX12_init 140 = .ok (.sipush 260, 3) := by decide +kernel
theorem dX12_init_143 : decode cX12_init 143 = .ok (.newarray .int, 2) := by decide +kernel
theorem dX12_init_145 : decode cX12_init 145 = .ok (.putfield 59, 3) := by decide +kernel
theorem dX12_init_148 : decode cX12_init 148 = .ok (.aload_n 0, 1) := by decide +kernel
theorem dX12_init_149 : decode cX12_init 149 = .ok (.bipush 9, 2) := by decide +kernel
theorem dX12_init_151 : decode cX12_init 151 = .ok (.newarray .int, 2) := by decide +kernel
theorem dX12_init_153 : decode cX12_init 153 = .ok (.putfield 62, 3) := by decide +kernel
theorem dX12_init_156 : decode cX12_init 156 = .ok (.aload_n 0, 1) := by decide +kernel
theorem dX12_init_157 : decode cX12_init 157 = .ok (.sipush 3904, 3) := by decide +kernel
theorem dX12_init_160 : decode cX12_init 160 = .ok (.newarray .int, 2) := by decide +kernel
theorem dX12_init_162 : decode cX12_init 162 = .ok (.putfield 65, 3) := by decide +kernel
theorem dX12_init_165 : decode cX12_init 165 = .ok (.aload_n 0, 1) := by decide +kernel
theorem dX12_init_166 : decode cX12_init 166 = .ok (.bipush 64, 2) := by decide +kernel
theorem dX12_init_168 : decode cX12_init 168 = .ok (.newarray .int, 2) := by decide +kernel
theorem dX12_init_170 : decode cX12_init 170 = .ok (.putfield 68, 3) := by decide +kernel
theorem dX12_init_173 : decode cX12_init 173 = .ok (.aload_n 0, 1) := by decide +kernel
theorem dX12_init_174 : decode cX12_init 174 = .ok (.bipush 64, 2) := by decide +kernel
theorem dX12_init_176 : decode cX12_init 176 = .ok (.newarray .int, 2) := by decide +kernel
theorem dX12_init_178 : decode cX12_init 178 = .ok (.putfield 71, 3) := by decide +kernel
theorem dX12_init_181 : decode cX12_init 181 = .ok (.aload_n 0, 1) := by decide +kernel
theorem dX12_init_182 : decode cX12_init 182 = .ok (.bipush 64, 2) := by decide +kernel
theorem dX12_init_184 : decode cX12_init 184 = .ok (.newarray .int, 2) := by decide +kernel
theorem dX12_init_186 : decode cX12_init 186 = .ok (.putfield 74, 3) := by decide +kernel
theorem dX12_init_189 : decode cX12_init 189 = .ok (.aload_n 0, 1) := by decide +kernel
theorem dX12_init_190 : decode cX12_init 190 = .ok (.bipush 64, 2) := by decide +kernel
theorem dX12_init_192 : decode cX12_init 192 = .ok (.newarray .int, 2) := by decide +kernel
theorem dX12_init_194 : decode cX12_init 194 = .ok (.putfield 77, 3) := by decide +kernel
theorem dX12_init_197 : decode cX12_init 197 = .ok (.aload_n 0, 1) := by decide +kernel
theorem dX12_init_198 : decode cX12_init 198 = .ok (.bipush 64, 2) := by decide +kernel
theorem dX12_init_200 : decode cX12_init 200 = .ok (.newarray .int, 2) := by decide +kernel
theorem dX12_init_202 : decode cX12_init 202 = .ok (.putfield 80, 3) := by decide +kernel
theorem dX12_init_205 : decode cX12_init 205 = .ok (.aload_n 0, 1) := by decide +kernel
theorem dX12_init_206 : decode cX12_init 206 = .ok (.bipush 64, 2) := by decide +kernel
theorem dX12_init_208 : decode cX12_init 208 = .ok (.newarray .int, 2) := by decide +kernel
theorem dX12_init_210 : decode cX12_init 210 = .ok (.putfield 83, 3) := by decide +kernel
theorem dX12_init_213 : decode cX12_init 213 = .ok (.aload_n 0, 1) := by decide +kernel
theorem dX12_init_214 : decode cX12_init 214 = .ok (.iconst 2, 1) := by decide +kernel
theorem dX12_init_215 : decode cX12_init 215 = .ok (.newarray .int, 2) := by decide +kernel
theorem dX12_init_217 : decode cX12_init 217 = .ok (.putfield 86, 3) := by decide +kernel
theorem dX12_init_220 : decode cX12_init 220 = .ok (.aload_n 0, 1) := by decide +kernel
theorem dX12_init_221 : decode cX12_init 221 = .ok (.iconst 2, 1) := by decide +kernel
theorem dX12_init_222 : decode cX12_init 222 = .ok (.newarray .int, 2) := by decide +kernel
theorem dX12_init_224 : decode cX12_init 224 = .ok (.putfield 89, 3) := by decide +kernel
theorem dX12_init_227 : decode cX12_init 227 = .ok (.aload_n 0, 1) := by decide +kernel
theorem dX12_init_228 : decode cX12_init 228 = .ok (.sipush 325, 3) := by decide +kernel
theorem dX12_init_231 : decode cX12_init 231 = .ok (.newarray .int, 2) := by decide +kernel
theorem dX12_init_233 : decode cX12_init 233 = .ok (.putfield 92, 3) := by decide +kernel
theorem dX12_init_236 : decode cX12_init 236 = .ok (.aload_n 0, 1) := by decide +kernel
theorem dX12_init_237 : decode cX12_init 237 = .ok (.iconst 4, 1) := by decide +kernel
theorem dX12_init_238 : decode cX12_init 238 = .ok (.newarray .int, 2) := by decide +kernel
theorem dX12_init_240 : decode cX12_init 240 = .ok (.putfield 95, 3) := by decide +kernel
theorem dX12_init_243 : decode cX12_init 243 = .ok (.aload_n 0, 1) := by decide +kernel
theorem dX12_init_244 : decode cX12_init 244 = .ok (.getfield 7, 3) := by decide +kernel
theorem dX12_init_247 : decode cX12_init 247 = .ok (.sipush 514, 3) := by decide +kernel
theorem dX12_init_250 : decode cX12_init 250 = .ok (.bipush 64, 2) := by decide +kernel
theorem dX12_init_252 : decode cX12_init 252 = .ok (.iastore, 1) := by decide +kernel
theorem dX12_init_253 : decode cX12_init 253 = .ok (.aload_n 0, 1) := by decide +kernel
theorem dX12_init_254 : decode cX12_init 254 = .ok (.getfield 7, 3) := by decide +kernel
theorem dX12_init_257 : decode cX12_init 257 = .ok (.sipush 515, 3) := by decide +kernel
theorem dX12_init_260 : decode cX12_init 260 = .ok (.bipush (-2), 2) := by decide +kernel
theorem dX12_init_262 : decode cX12_init 262 = .ok (.iastore, 1) := by decide +kernel
theorem dX12_init_263 : decode cX12_init 263 = .ok (.aload_n 0, 1) := by decide +kernel
theorem dX12_init_264 : decode cX12_init 264 = .ok (.bipush 16, 2) := by decide +kernel
theorem dX12_init_266 : decode cX12_init 266 = .ok (.invokevirtual 98, 3) := by decide +kernel
theorem dX12_init_269 : decode cX12_init 269 = .ok (.pop, 1) := by decide +kernel
theorem dX12_init_270 : decode cX12_init 270 = .ok (.return_, 1) := by decide +kernel
set_option maxRecDepth 100000 in
set_option maxHeartbeats 4000000 in
theorem c_X12_init {l : Launch} {D : q_D} (τ : q_T) (σ : q_V) (a0 : Nat) (hI : q_I τ σ) (tA0 : τ a0 = some (10, 0)) (h0 : ∀ j, j < 46 → σ a0 j = defaultValue (tyX12 j)) : q_C l D yX12_init cX12_init 1 none 2 44 29 7769 τ σ [.ref a0] q_ev (fun _ τ1 σ1 => (∀ (b : Nat) (x : Nat × Nat), b ≠ a0 → τ b = some x → ∀ i : Nat, fx_N σ1 b i = fx_N σ b i) ∧ (q_I τ1 σ1 ∧ τ1 a0 = some (10, 1) ∧ ∀ (b : Nat) (x : Nat × Nat), b ≠ a0 → τ b = some x → τ1 b = some x) ∧ σ1 a0 13 = .int 0 ∧ σ1 a0 45 = .int 0 ∧ (∀ b : Nat, τ b = some (9, 1) → σ1 b = σ b) ∧ (∀ b : Nat, τ b = some (6, 1) → σ1 b = σ b) ∧ σ1 a0 4 = .int 0 ∧ ∃ bn : Nat, σ1 a0 0 = .ref bn ∧ σ1 bn 512 = .int 16 ∧ zw_1 bn (fx_N σ1) ∧ zz_qz σ1 bn 64 ∧ (∀ b : Nat, τ b = some (118, 64) → σ1 b = σ b) ∧ (∀ b : Nat, τ b = some (4, 1) → σ1 b = σ b) ∧ ∀ b : Nat, τ b = some (3, 1) → σ1 b = σ b) := by
  refine q_met rfl (Nat.le_of_ble_eq_true rfl) (fun X hG hE hnm => ?_)
  show q_O X 0 0 τ σ 0 [(0, .ref a0)] []
  refine q_aload_n (pc := 0) hG dX12_init_0 0 rfl ?_
  refine q_oin (pc := 1) hG w772 w22 w23 dX12_init_1 ⟨by decide, by decide⟩ (by decide) ?_
  refine q_aload_n (pc := 4) hG dX12_init_4 0 rfl ?_
  refine q_sipush (pc := 5) hG dX12_init_5 ks_549 ?_
  refine q_newA (pc := 8) (k := 103) (N := 549) (aty := .int) hG w36 dX12_init_8 ⟨by decide, by decide, rfl⟩ tl_549 (by decide) ⟨by decide, by decide⟩ (fun h8 n8 => ?_)
  obtain ⟨τ8, et8⟩ : ∃ t : q_T, t = q_tu τ h8 (103, 549) := ⟨_, rfl⟩
  obtain ⟨σ8, es8⟩ : ∃ t : q_V, t = q_vu σ h8 (fun _ => defaultValue (newarray.typeOf .int)) := ⟨_, rfl⟩
  rw [← et8, ← es8]
  have x8 : ∀ (b : Nat) (x : Nat × Nat), τ b = some x → τ8 b = some x ∧ σ8 b = σ b := by rw [et8, es8]; exact fun b x hb => ⟨(q_tu_ne (fun e => by rw [e, n8] at hb; cases hb)).trans hb, q_vu_ne (fun e => by rw [e, n8] at hb; cases hb)⟩
  have T8 : τ8 h8 = some (103, 549) := by rw [et8]; exact q_tu_new
  have NE : h8 ≠ a0 := fun e => by have q := n8; rw [e, tA0] at q; cases q
  have z8 : σ8 h8 = (fun _ => defaultValue (newarray.typeOf .int)) := by rw [es8]; exact q_vu_new
  have I8 : q_I τ8 σ8 := by rw [et8, es8]; exact q_I.mk hI n8 (fun j _ => (show q_v _ _ (.int 0) from q_vi (ai_103.2.2 j) rl_0 (by decide)))
  have A8 := x8 a0 _ tA0
  have F8 : σ8 a0 = σ a0 := A8.2.trans rfl
  show q_O X 1 549 τ8 σ8 10 [(0, .ref a0)] [.ref h8, .ref a0]
  refine q_putF (pc := 10) hG hnm fl_X12_7 (fun r hr => by cases hr; rfl) dX12_init_10 A8.1 rfl rfl ?_
  obtain ⟨σ10, es10⟩ : ∃ t : q_V, t = q_up σ8 a0 0 (.ref h8) := ⟨_, rfl⟩
  rw [← es10]
  have I10 : q_I τ8 σ10 := by rw [es10]; exact I8.put A8.1 (fun hj => absurd (show 0 < 0 from hj) (Nat.not_lt_zero _))
  have F10 : σ10 a0 = updV (σ a0) 0 (.ref h8) := by rw [es10, q_upF, F8]
  have x10 : ∀ b, b ≠ a0 → σ10 b = σ8 b := by rw [es10]; exact fun b hb => q_up_ne hb
  show q_O X 1 549 τ8 σ10 13 [(0, .ref a0)] []
  refine q_aload_n (pc := 13) hG dX12_init_13 0 rfl ?_
  refine q_sipush (pc := 14) hG dX12_init_14 ks_549 ?_
  refine q_newA (pc := 17) (k := 101) (N := 549) (aty := .int) hG w36 dX12_init_17 ⟨by decide, by decide, rfl⟩ tl_549 (by decide) ⟨by decide, by decide⟩ (fun h17 n17 => ?_)
  obtain ⟨τ17, et17⟩ : ∃ t : q_T, t = q_tu τ8 h17 (101, 549) := ⟨_, rfl⟩
  obtain ⟨σ17, es17⟩ : ∃ t : q_V, t = q_vu σ10 h17 (fun _ => defaultValue (newarray.typeOf .int)) := ⟨_, rfl⟩
  rw [← et17, ← es17]
  have x17 : q_ex τ8 σ10 τ17 σ17 := by rw [et17, es17]; exact q_ex.mk n17 (Or.inl (by decide))
  have T17 : τ17 h17 = some (101, 549) := by rw [et17]; exact q_tu_new
  have z17 : σ17 h17 = (fun _ => defaultValue (newarray.typeOf .int)) := by rw [es17]; exact q_vu_new
  have I17 : q_I τ17 σ17 := by rw [et17, es17]; exact q_I.mk I10 n17 (fun j _ => (show q_v _ _ (.int 0) from q_vi (ai_101.2.2 j) rl_0 (by decide)))
  have A17 := x17.1 a0 _ A8.1
  have F17 : σ17 a0 = updV (σ a0) 0 (.ref h8) := A17.2.trans F10
  show q_O X 2 1098 τ17 σ17 19 [(0, .ref a0)] [.ref h17, .ref a0]
  refine q_putF (pc := 19) hG hnm fl_X12_13 (fun r hr => by cases hr; rfl) dX12_init_19 A17.1 rfl rfl ?_
  obtain ⟨σ19, es19⟩ : ∃ t : q_V, t = q_up σ17 a0 1 (.ref h17) := ⟨_, rfl⟩
  rw [← es19]
  have I19 : q_I τ17 σ19 := by rw [es19]; exact I17.put A17.1 (fun hj => absurd (show 1 < 0 from hj) (Nat.not_lt_zero _))
  have F19 : σ19 a0 = updV (updV (σ a0) 0 (.ref h8)) 1 (.ref h17) := by rw [es19, q_upF, F17]
  have x19 : ∀ b, b ≠ a0 → σ19 b = σ17 b := by rw [es19]; exact fun b hb => q_up_ne hb
  show q_O X 2 1098 τ17 σ19 22 [(0, .ref a0)] []
  refine q_aload_n (pc := 22) hG dX12_init_22 0 rfl ?_
  refine q_sipush (pc := 23) hG dX12_init_23 ks_549 ?_
  refine q_newA (pc := 26) (k := 102) (N := 549) (aty := .int) hG w36 dX12_init_26 ⟨by decide, by decide, rfl⟩ tl_549 (by decide) ⟨by decide, by decide⟩ (fun h26 n26 => ?_)
  obtain ⟨τ26, et26⟩ : ∃ t : q_T, t = q_tu τ17 h26 (102, 549) := ⟨_, rfl⟩
  obtain ⟨σ26, es26⟩ : ∃ t : q_V, t = q_vu σ19 h26 (fun _ => defaultValue (newarray.typeOf .int)) := ⟨_, rfl⟩
  rw [← et26, ← es26]
  have x26 : q_ex τ17 σ19 τ26 σ26 := by rw [et26, es26]; exact q_ex.mk n26 (Or.inl (by decide))
  have T26 : τ26 h26 = some (102, 549) := by rw [et26]; exact q_tu_new
  have z26 : σ26 h26 = (fun _ => defaultValue (newarray.typeOf .int)) := by rw [es26]; exact q_vu_new
  have I26 : q_I τ26 σ26 := by rw [et26, es26]; exact q_I.mk I19 n26 (fun j _ => (show q_v _ _ (.int 0) from q_vi (ai_102.2.2 j) rl_0 (by decide)))
  have A26 := x26.1 a0 _ A17.1
  have F26 : σ26 a0 = updV (updV (σ a0) 0 (.ref h8)) 1 (.ref h17) := A26.2.trans F19
  show q_O X 3 1647 τ26 σ26 28 [(0, .ref a0)] [.ref h26, .ref a0]
  refine q_putF (pc := 28) hG hnm fl_X12_16 (fun r hr => by cases hr; rfl) dX12_init_28 A26.1 rfl rfl ?_
  obtain ⟨σ28, es28⟩ : ∃ t : q_V, t = q_up σ26 a0 2 (.ref h26) := ⟨_, rfl⟩
  rw [← es28]
  have I28 : q_I τ26 σ28 := by rw [es28]; exact I26.put A26.1 (fun hj => absurd (show 2 < 0 from hj) (Nat.not_lt_zero _))
  have F28 : σ28 a0 = updV (updV (updV (σ a0) 0 (.ref h8)) 1 (.ref h17)) 2 (.ref h26) := by rw [es28, q_upF, F26]
  have x28 : ∀ b, b ≠ a0 → σ28 b = σ26 b := by rw [es28]; exact fun b hb => q_up_ne hb
  show q_O X 3 1647 τ26 σ28 31 [(0, .ref a0)] []
  refine q_aload_n (pc := 31) hG dX12_init_31 0 rfl ?_
  refine q_sipush (pc := 32) hG dX12_init_32 ks_260 ?_
  refine q_newA (pc := 35) (k := 310) (N := 260) (aty := .byte) hG w830 dX12_init_35 ⟨by decide, by decide, rfl⟩ tl_260 (by decide) ⟨by decide, by decide⟩ (fun h35 n35 => ?_)
  obtain ⟨τ35, et35⟩ : ∃ t : q_T, t = q_tu τ26 h35 (310, 260) := ⟨_, rfl⟩
  obtain ⟨σ35, es35⟩ : ∃ t : q_V, t = q_vu σ28 h35 (fun _ => defaultValue (newarray.typeOf .byte)) := ⟨_, rfl⟩
  rw [← et35, ← es35]
  have x35 : q_ex τ26 σ28 τ35 σ35 := by rw [et35, es35]; exact q_ex.mk n35 (Or.inl (by decide))
  have T35 : τ35 h35 = some (310, 260) := by rw [et35]; exact q_tu_new
  have z35 : σ35 h35 = (fun _ => defaultValue (newarray.typeOf .byte)) := by rw [es35]; exact q_vu_new
  have I35 : q_I τ35 σ35 := by rw [et35, es35]; exact q_I.mk I28 n35 (fun j _ => (show q_v _ _ (.int 0) from q_vi (ai_310.2.2 j) rl_0 (by decide)))
  have A35 := x35.1 a0 _ A26.1
  have F35 : σ35 a0 = updV (updV (updV (σ a0) 0 (.ref h8)) 1 (.ref h17)) 2 (.ref h26) := A35.2.trans F28
  show q_O X 4 1907 τ35 σ35 37 [(0, .ref a0)] [.ref h35, .ref a0]
  refine q_putF (pc := 37) hG hnm fl_X12_19 (fun r hr => by cases hr; rfl) dX12_init_37 A35.1 rfl rfl ?_
  obtain ⟨σ37, es37⟩ : ∃ t : q_V, t = q_up σ35 a0 3 (.ref h35) := ⟨_, rfl⟩
  rw [← es37]
  have I37 : q_I τ35 σ37 := by rw [es37]; exact I35.put A35.1 (fun hj => absurd (show 3 < 0 from hj) (Nat.not_lt_zero _))
  have F37 : σ37 a0 = updV (updV (updV (updV (σ a0) 0 (.ref h8)) 1 (.ref h17)) 2 (.ref h26)) 3 (.ref h35) := by rw [es37, q_upF, F35]
  have x37 : ∀ b, b ≠ a0 → σ37 b = σ35 b := by rw [es37]; exact fun b hb => q_up_ne hb
  show q_O X 4 1907 τ35 σ37 40 [(0, .ref a0)] []
  refine q_aload_n (pc := 40) hG dX12_init_40 0 rfl ?_
  refine q_sipush (pc := 41) hG dX12_init_41 ks_260 ?_
  refine q_newA (pc := 44) (k := 150) (N := 260) (aty := .int) hG w36 dX12_init_44 ⟨by decide, by decide, rfl⟩ tl_260 (by decide) ⟨by decide, by decide⟩ (fun h44 n44 => ?_)
  obtain ⟨τ44, et44⟩ : ∃ t : q_T, t = q_tu τ35 h44 (150, 260) := ⟨_, rfl⟩
  obtain ⟨σ44, es44⟩ : ∃ t : q_V, t = q_vu σ37 h44 (fun _ => defaultValue (newarray.typeOf .int)) := ⟨_, rfl⟩
  rw [← et44, ← es44]
  have x44 : q_ex τ35 σ37 τ44 σ44 := by rw [et44, es44]; exact q_ex.mk n44 (Or.inl (by decide))
  have T44 : τ44 h44 = some (150, 260) := by rw [et44]; exact q_tu_new
  have z44 : σ44 h44 = (fun _ => defaultValue (newarray.typeOf .int)) := by rw [es44]; exact q_vu_new
  have I44 : q_I τ44 σ44 := by rw [et44, es44]; exact q_I.mk I37 n44 (fun j _ => (show q_v _ _ (.int 0) from q_vi (ai_150.2.2 j) rl_0 (by decide)))
  have A44 := x44.1 a0 _ A35.1
  have F44 : σ44 a0 = updV (updV (updV (updV (σ a0) 0 (.ref h8)) 1 (.ref h17)) 2 (.ref h26)) 3 (.ref h35) := A44.2.trans F37
  show q_O X 5 2167 τ44 σ44 46 [(0, .ref a0)] [.ref h44, .ref a0]
  refine q_putF (pc := 46) hG hnm fl_X12_23 (fun r hr => by cases hr; rfl) dX12_init_46 A44.1 rfl rfl ?_
  obtain ⟨σ46, es46⟩ : ∃ t : q_V, t = q_up σ44 a0 15 (.ref h44) := ⟨_, rfl⟩
  rw [← es46]
  have I46 : q_I τ44 σ46 := by rw [es46]; exact I44.put A44.1 (fun hj => absurd (show 15 < 0 from hj) (Nat.not_lt_zero _))
  have F46 : σ46 a0 = updV (updV (updV (updV (updV (σ a0) 0 (.ref h8)) 1 (.ref h17)) 2 (.ref h26)) 3 (.ref h35)) 15 (.ref h44) := by rw [es46, q_upF, F44]
  have x46 : ∀ b, b ≠ a0 → σ46 b = σ44 b := by rw [es46]; exact fun b hb => q_up_ne hb
  show q_O X 5 2167 τ44 σ46 49 [(0, .ref a0)] []
  refine q_aload_n (pc := 49) hG dX12_init_49 0 rfl ?_
  refine q_sipush (pc := 50) hG dX12_init_50 ks_260 ?_
  refine q_newA (pc := 53) (k := 151) (N := 260) (aty := .int) hG w36 dX12_init_53 ⟨by decide, by decide, rfl⟩ tl_260 (by decide) ⟨by decide, by decide⟩ (fun h53 n53 => ?_)
  obtain ⟨τ53, et53⟩ : ∃ t : q_T, t = q_tu τ44 h53 (151, 260) := ⟨_, rfl⟩
  obtain ⟨σ53, es53⟩ : ∃ t : q_V, t = q_vu σ46 h53 (fun _ => defaultValue (newarray.typeOf .int)) := ⟨_, rfl⟩
  rw [← et53, ← es53]
  have x53 : q_ex τ44 σ46 τ53 σ53 := by rw [et53, es53]; exact q_ex.mk n53 (Or.inl (by decide))
  have T53 : τ53 h53 = some (151, 260) := by rw [et53]; exact q_tu_new
  have z53 : σ53 h53 = (fun _ => defaultValue (newarray.typeOf .int)) := by rw [es53]; exact q_vu_new
  have I53 : q_I τ53 σ53 := by rw [et53, es53]; exact q_I.mk I46 n53 (fun j _ => (show q_v _ _ (.int 0) from q_vi (ai_151.2.2 j) rl_0 (by decide)))
  have A53 := x53.1 a0 _ A44.1
  have F53 : σ53 a0 = updV (updV (updV (updV (updV (σ a0) 0 (.ref h8)) 1 (.ref h17)) 2 (.ref h26)) 3 (.ref h35)) 15 (.ref h44) := A53.2.trans F46
  show q_O X 6 2427 τ53 σ53 55 [(0, .ref a0)] [.ref h53, .ref a0]
  refine q_putF (pc := 55) hG hnm fl_X12_26 (fun r hr => by cases hr; rfl) dX12_init_55 A53.1 rfl rfl ?_
  obtain ⟨σ55, es55⟩ : ∃ t : q_V, t = q_up σ53 a0 16 (.ref h53) := ⟨_, rfl⟩
  rw [← es55]
  have I55 : q_I τ53 σ55 := by rw [es55]; exact I53.put A53.1 (fun hj => absurd (show 16 < 0 from hj) (Nat.not_lt_zero _))
  have F55 : σ55 a0 = updV (updV (updV (updV (updV (updV (σ a0) 0 (.ref h8)) 1 (.ref h17)) 2 (.ref h26)) 3 (.ref h35)) 15 (.ref h44)) 16 (.ref h53) := by rw [es55, q_upF, F53]
  have x55 : ∀ b, b ≠ a0 → σ55 b = σ53 b := by rw [es55]; exact fun b hb => q_up_ne hb
  show q_O X 6 2427 τ53 σ55 58 [(0, .ref a0)] []
  refine q_aload_n (pc := 58) hG dX12_init_58 0 rfl ?_
  refine q_bipush (pc := 59) hG dX12_init_59 kb_16 ?_
  refine q_newA (pc := 61) (k := 152) (N := 16) (aty := .int) hG w36 dX12_init_61 ⟨by decide, by decide, rfl⟩ tl_16 (by decide) ⟨by decide, by decide⟩ (fun h61 n61 => ?_)
  obtain ⟨τ61, et61⟩ : ∃ t : q_T, t = q_tu τ53 h61 (152, 16) := ⟨_, rfl⟩
  obtain ⟨σ61, es61⟩ : ∃ t : q_V, t = q_vu σ55 h61 (fun _ => defaultValue (newarray.typeOf .int)) := ⟨_, rfl⟩
  rw [← et61, ← es61]
  have x61 : q_ex τ53 σ55 τ61 σ61 := by rw [et61, es61]; exact q_ex.mk n61 (Or.inl (by decide))
  have T61 : τ61 h61 = some (152, 16) := by rw [et61]; exact q_tu_new
  have z61 : σ61 h61 = (fun _ => defaultValue (newarray.typeOf .int)) := by rw [es61]; exact q_vu_new
  have I61 : q_I τ61 σ61 := by rw [et61, es61]; exact q_I.mk I55 n61 (fun j _ => (show q_v _ _ (.int 0) from q_vi (ai_152.2.2 j) rl_0 (by decide)))
  have A61 := x61.1 a0 _ A53.1
  have F61 : σ61 a0 = updV (updV (updV (updV (updV (updV (σ a0) 0 (.ref h8)) 1 (.ref h17)) 2 (.ref h26)) 3 (.ref h35)) 15 (.ref h44)) 16 (.ref h53) := A61.2.trans F55
  show q_O X 7 2443 τ61 σ61 63 [(0, .ref a0)] [.ref h61, .ref a0]
  refine q_putF (pc := 63) hG hnm fl_X12_29 (fun r hr => by cases hr; rfl) dX12_init_63 A61.1 rfl rfl ?_
  obtain ⟨σ63, es63⟩ : ∃ t : q_V, t = q_up σ61 a0 17 (.ref h61) := ⟨_, rfl⟩
  rw [← es63]
  have I63 : q_I τ61 σ63 := by rw [es63]; exact I61.put A61.1 (fun hj => absurd (show 17 < 0 from hj) (Nat.not_lt_zero _))
  have F63 : σ63 a0 = updV (updV (updV (updV (updV (updV (updV (σ a0) 0 (.ref h8)) 1 (.ref h17)) 2 (.ref h26)) 3 (.ref h35)) 15 (.ref h44)) 16 (.ref h53)) 17 (.ref h61) := by rw [es63, q_upF, F61]
  have x63 : ∀ b, b ≠ a0 → σ63 b = σ61 b := by rw [es63]; exact fun b hb => q_up_ne hb
  show q_O X 7 2443 τ61 σ63 66 [(0, .ref a0)] []
  refine q_aload_n (pc := 66) hG dX12_init_66 0 rfl ?_
  refine q_bipush (pc := 67) hG dX12_init_67 kb_16 ?_
  refine q_newA (pc := 69) (k := 153) (N := 16) (aty := .int) hG w36 dX12_init_69 ⟨by decide, by decide, rfl⟩ tl_16 (by decide) ⟨by decide, by decide⟩ (fun h69 n69 => ?_)
  obtain ⟨τ69, et69⟩ : ∃ t : q_T, t = q_tu τ61 h69 (153, 16) := ⟨_, rfl⟩
  obtain ⟨σ69, es69⟩ : ∃ t : q_V, t = q_vu σ63 h69 (fun _ => defaultValue (newarray.typeOf .int)) := ⟨_, rfl⟩
  rw [← et69, ← es69]
  have x69 : q_ex τ61 σ63 τ69 σ69 := by rw [et69, es69]; exact q_ex.mk n69 (Or.inl (by decide))
  have T69 : τ69 h69 = some (153, 16) := by rw [et69]; exact q_tu_new
  have z69 : σ69 h69 = (fun _ => defaultValue (newarray.typeOf .int)) := by rw [es69]; exact q_vu_new
  have I69 : q_I τ69 σ69 := by rw [et69, es69]; exact q_I.mk I63 n69 (fun j _ => (show q_v _ _ (.int 0) from q_vi (ai_153.2.2 j) rl_0 (by decide)))
  have A69 := x69.1 a0 _ A61.1
  have F69 : σ69 a0 = updV (updV (updV (updV (updV (updV (updV (σ a0) 0 (.ref h8)) 1 (.ref h17)) 2 (.ref h26)) 3 (.ref h35)) 15 (.ref h44)) 16 (.ref h53)) 17 (.ref h61) := A69.2.trans F63
  show q_O X 8 2459 τ69 σ69 71 [(0, .ref a0)] [.ref h69, .ref a0]
  refine q_putF (pc := 71) hG hnm fl_X12_32 (fun r hr => by cases hr; rfl) dX12_init_71 A69.1 rfl rfl ?_
  obtain ⟨σ71, es71⟩ : ∃ t : q_V, t = q_up σ69 a0 18 (.ref h69) := ⟨_, rfl⟩
  rw [← es71]
  have I71 : q_I τ69 σ71 := by rw [es71]; exact I69.put A69.1 (fun hj => absurd (show 18 < 0 from hj) (Nat.not_lt_zero _))
  have F71 : σ71 a0 = updV (updV (updV (updV (updV (updV (updV (updV (σ a0) 0 (.ref h8)) 1 (.ref h17)) 2 (.ref h26)) 3 (.ref h35)) 15 (.ref h44)) 16 (.ref h53)) 17 (.ref h61)) 18 (.ref h69) := by rw [es71, q_upF, F69]
  have x71 : ∀ b, b ≠ a0 → σ71 b = σ69 b := by rw [es71]; exact fun b hb => q_up_ne hb
  show q_O X 8 2459 τ69 σ71 74 [(0, .ref a0)] []
  refine q_aload_n (pc := 74) hG dX12_init_74 0 rfl ?_
  refine q_bipush (pc := 75) hG dX12_init_75 kb_16 ?_
  refine q_newA (pc := 77) (k := 154) (N := 16) (aty := .int) hG w36 dX12_init_77 ⟨by decide, by decide, rfl⟩ tl_16 (by decide) ⟨by decide, by decide⟩ (fun h77 n77 => ?_)
  obtain ⟨τ77, et77⟩ : ∃ t : q_T, t = q_tu τ69 h77 (154, 16) := ⟨_, rfl⟩
  obtain ⟨σ77, es77⟩ : ∃ t : q_V, t = q_vu σ71 h77 (fun _ => defaultValue (newarray.typeOf .int)) := ⟨_, rfl⟩
  rw [← et77, ← es77]
  have x77 : q_ex τ69 σ71 τ77 σ77 := by rw [et77, es77]; exact q_ex.mk n77 (Or.inl (by decide))
  have T77 : τ77 h77 = some (154, 16) := by rw [et77]; exact q_tu_new
  have z77 : σ77 h77 = (fun _ => defaultValue (newarray.typeOf .int)) := by rw [es77]; exact q_vu_new
  have I77 : q_I τ77 σ77 := by rw [et77, es77]; exact q_I.mk I71 n77 (fun j _ => (show q_v _ _ (.int 0) from q_vi (ai_154.2.2 j) rl_0 (by decide)))
  have A77 := x77.1 a0 _ A69.1
  have F77 : σ77 a0 = updV (updV (updV (updV (updV (updV (updV (updV (σ a0) 0 (.ref h8)) 1 (.ref h17)) 2 (.ref h26)) 3 (.ref h35)) 15 (.ref h44)) 16 (.ref h53)) 17 (.ref h61)) 18 (.ref h69) := A77.2.trans F71
  show q_O X 9 2475 τ77 σ77 79 [(0, .ref a0)] [.ref h77, .ref a0]
  refine q_putF (pc := 79) hG hnm fl_X12_35 (fun r hr => by cases hr; rfl) dX12_init_79 A77.1 rfl rfl ?_
  obtain ⟨σ79, es79⟩ : ∃ t : q_V, t = q_up σ77 a0 19 (.ref h77) := ⟨_, rfl⟩
  rw [← es79]
  have I79 : q_I τ77 σ79 := by rw [es79]; exact I77.put A77.1 (fun hj => absurd (show 19 < 0 from hj) (Nat.not_lt_zero _))
  have F79 : σ79 a0 = updV (updV (updV (updV (updV (updV (updV (updV (updV (σ a0) 0 (.ref h8)) 1 (.ref h17)) 2 (.ref h26)) 3 (.ref h35)) 15 (.ref h44)) 16 (.ref h53)) 17 (.ref h61)) 18 (.ref h69)) 19 (.ref h77) := by rw [es79, q_upF, F77]
  have x79 : ∀ b, b ≠ a0 → σ79 b = σ77 b := by rw [es79]; exact fun b hb => q_up_ne hb
  show q_O X 9 2475 τ77 σ79 82 [(0, .ref a0)] []
  refine q_aload_n (pc := 82) hG dX12_init_82 0 rfl ?_
  refine q_bipush (pc := 83) hG dX12_init_83 kb_16 ?_
  refine q_newA (pc := 85) (k := 155) (N := 16) (aty := .int) hG w36 dX12_init_85 ⟨by decide, by decide, rfl⟩ tl_16 (by decide) ⟨by decide, by decide⟩ (fun h85 n85 => ?_)
  obtain ⟨τ85, et85⟩ : ∃ t : q_T, t = q_tu τ77 h85 (155, 16) := ⟨_, rfl⟩
  obtain ⟨σ85, es85⟩ : ∃ t : q_V, t = q_vu σ79 h85 (fun _ => defaultValue (newarray.typeOf .int)) := ⟨_, rfl⟩
  rw [← et85, ← es85]
  have x85 : q_ex τ77 σ79 τ85 σ85 := by rw [et85, es85]; exact q_ex.mk n85 (Or.inl (by decide))
  have T85 : τ85 h85 = some (155, 16) := by rw [et85]; exact q_tu_new
  have z85 : σ85 h85 = (fun _ => defaultValue (newarray.typeOf .int)) := by rw [es85]; exact q_vu_new
  have I85 : q_I τ85 σ85 := by rw [et85, es85]; exact q_I.mk I79 n85 (fun j _ => (show q_v _ _ (.int 0) from q_vi (ai_155.2.2 j) rl_0 (by decide)))
  have A85 := x85.1 a0 _ A77.1
  have F85 : σ85 a0 = updV (updV (updV (updV (updV (updV (updV (updV (updV (σ a0) 0 (.ref h8)) 1 (.ref h17)) 2 (.ref h26)) 3 (.ref h35)) 15 (.ref h44)) 16 (.ref h53)) 17 (.ref h61)) 18 (.ref h69)) 19 (.ref h77) := A85.2.trans F79
  show q_O X 10 2491 τ85 σ85 87 [(0, .ref a0)] [.ref h85, .ref a0]
  refine q_putF (pc := 87) hG hnm fl_X12_38 (fun r hr => by cases hr; rfl) dX12_init_87 A85.1 rfl rfl ?_
  obtain ⟨σ87, es87⟩ : ∃ t : q_V, t = q_up σ85 a0 20 (.ref h85) := ⟨_, rfl⟩
  rw [← es87]
  have I87 : q_I τ85 σ87 := by rw [es87]; exact I85.put A85.1 (fun hj => absurd (show 20 < 0 from hj) (Nat.not_lt_zero _))
  have F87 : σ87 a0 = updV (updV (updV (updV (updV (updV (updV (updV (updV (updV (σ a0) 0 (.ref h8)) 1 (.ref h17)) 2 (.ref h26)) 3 (.ref h35)) 15 (.ref h44)) 16 (.ref h53)) 17 (.ref h61)) 18 (.ref h69)) 19 (.ref h77)) 20 (.ref h85) := by rw [es87, q_upF, F85]
  have x87 : ∀ b, b ≠ a0 → σ87 b = σ85 b := by rw [es87]; exact fun b hb => q_up_ne hb
  show q_O X 10 2491 τ85 σ87 90 [(0, .ref a0)] []
  refine q_aload_n (pc := 90) hG dX12_init_90 0 rfl ?_
  refine q_sipush (pc := 91) hG dX12_init_91 ks_260 ?_
  refine q_newA (pc := 94) (k := 156) (N := 260) (aty := .int) hG w36 dX12_init_94 ⟨by decide, by decide, rfl⟩ tl_260 (by decide) ⟨by decide, by decide⟩ (fun h94 n94 => ?_)
  obtain ⟨τ94, et94⟩ : ∃ t : q_T, t = q_tu τ85 h94 (156, 260) := ⟨_, rfl⟩
  obtain ⟨σ94, es94⟩ : ∃ t : q_V, t = q_vu σ87 h94 (fun _ => defaultValue (newarray.typeOf .int)) := ⟨_, rfl⟩
  rw [← et94, ← es94]
  have x94 : q_ex τ85 σ87 τ94 σ94 := by rw [et94, es94]; exact q_ex.mk n94 (Or.inl (by decide))
  have T94 : τ94 h94 = some (156, 260) := by rw [et94]; exact q_tu_new
  have z94 : σ94 h94 = (fun _ => defaultValue (newarray.typeOf .int)) := by rw [es94]; exact q_vu_new
  have I94 : q_I τ94 σ94 := by rw [et94, es94]; exact q_I.mk I87 n94 (fun j _ => (show q_v _ _ (.int 0) from q_vi (ai_156.2.2 j) rl_0 (by decide)))
  have A94 := x94.1 a0 _ A85.1
  have F94 : σ94 a0 = updV (updV (updV (updV (updV (updV (updV (updV (updV (updV (σ a0) 0 (.ref h8)) 1 (.ref h17)) 2 (.ref h26)) 3 (.ref h35)) 15 (.ref h44)) 16 (.ref h53)) 17 (.ref h61)) 18 (.ref h69)) 19 (.ref h77)) 20 (.ref h85) := A94.2.trans F87
  show q_O X 11 2751 τ94 σ94 96 [(0, .ref a0)] [.ref h94, .ref a0]
  refine q_putF (pc := 96) hG hnm fl_X12_41 (fun r hr => by cases hr; rfl) dX12_init_96 A94.1 rfl rfl ?_
  obtain ⟨σ96, es96⟩ : ∃ t : q_V, t = q_up σ94 a0 21 (.ref h94) := ⟨_, rfl⟩
  rw [← es96]
  have I96 : q_I τ94 σ96 := by rw [es96]; exact I94.put A94.1 (fun hj => absurd (show 21 < 0 from hj) (Nat.not_lt_zero _))
  have F96 : σ96 a0 = updV (updV (updV (updV (updV (updV (updV (updV (updV (updV (updV (σ a0) 0 (.ref h8)) 1 (.ref h17)) 2 (.ref h26)) 3 (.ref h35)) 15 (.ref h44)) 16 (.ref h53)) 17 (.ref h61)) 18 (.ref h69)) 19 (.ref h77)) 20 (.ref h85)) 21 (.ref h94) := by rw [es96, q_upF, F94]
  have x96 : ∀ b, b ≠ a0 → σ96 b = σ94 b := by rw [es96]; exact fun b hb => q_up_ne hb
  show q_O X 11 2751 τ94 σ96 99 [(0, .ref a0)] []
  refine q_aload_n (pc := 99) hG dX12_init_99 0 rfl ?_
  refine q_bipush (pc := 100) hG dX12_init_100 kb_16 ?_
  refine q_newA (pc := 102) (k := 157) (N := 16) (aty := .int) hG w36 dX12_init_102 ⟨by decide, by decide, rfl⟩ tl_16 (by decide) ⟨by decide, by decide⟩ (fun h102 n102 => ?_)
  obtain ⟨τ102, et102⟩ : ∃ t : q_T, t = q_tu τ94 h102 (157, 16) := ⟨_, rfl⟩
  obtain ⟨σ102, es102⟩ : ∃ t : q_V, t = q_vu σ96 h102 (fun _ => defaultValue (newarray.typeOf .int)) := ⟨_, rfl⟩
  rw [← et102, ← es102]
  have x102 : q_ex τ94 σ96 τ102 σ102 := by rw [et102, es102]; exact q_ex.mk n102 (Or.inl (by decide))
  have T102 : τ102 h102 = some (157, 16) := by rw [et102]; exact q_tu_new
  have z102 : σ102 h102 = (fun _ => defaultValue (newarray.typeOf .int)) := by rw [es102]; exact q_vu_new
  have I102 : q_I τ102 σ102 := by rw [et102, es102]; exact q_I.mk I96 n102 (fun j _ => (show q_v _ _ (.int 0) from q_vi (ai_157.2.2 j) rl_0 (by decide)))
  have A102 := x102.1 a0 _ A94.1
  have F102 : σ102 a0 = updV (updV (updV (updV (updV (updV (updV (updV (updV (updV (updV (σ a0) 0 (.ref h8)) 1 (.ref h17)) 2 (.ref h26)) 3 (.ref h35)) 15 (.ref h44)) 16 (.ref h53)) 17 (.ref h61)) 18 (.ref h69)) 19 (.ref h77)) 20 (.ref h85)) 21 (.ref h94) := A102.2.trans F96
  show q_O X 12 2767 τ102 σ102 104 [(0, .ref a0)] [.ref h102, .ref a0]
  refine q_putF (pc := 104) hG hnm fl_X12_44 (fun r hr => by cases hr; rfl) dX12_init_104 A102.1 rfl rfl ?_
  obtain ⟨σ104, es104⟩ : ∃ t : q_V, t = q_up σ102 a0 22 (.ref h102) := ⟨_, rfl⟩
  rw [← es104]
  have I104 : q_I τ102 σ104 := by rw [es104]; exact I102.put A102.1 (fun hj => absurd (show 22 < 0 from hj) (Nat.not_lt_zero _))
  have F104 : σ104 a0 = updV (updV (updV (updV (updV (updV (updV (updV (updV (updV (updV (updV (σ a0) 0 (.ref h8)) 1 (.ref h17)) 2 (.ref h26)) 3 (.ref h35)) 15 (.ref h44)) 16 (.ref h53)) 17 (.ref h61)) 18 (.ref h69)) 19 (.ref h77)) 20 (.ref h85)) 21 (.ref h94)) 22 (.ref h102) := by rw [es104, q_upF, F102]
  have x104 : ∀ b, b ≠ a0 → σ104 b = σ102 b := by rw [es104]; exact fun b hb => q_up_ne hb
  show q_O X 12 2767 τ102 σ104 107 [(0, .ref a0)] []
  refine q_aload_n (pc := 107) hG dX12_init_107 0 rfl ?_
  refine q_bipush (pc := 108) hG dX12_init_108 kb_16 ?_
  refine q_newA (pc := 110) (k := 158) (N := 16) (aty := .int) hG w36 dX12_init_110 ⟨by decide, by decide, rfl⟩ tl_16 (by decide) ⟨by decide, by decide⟩ (fun h110 n110 => ?_)
  obtain ⟨τ110, et110⟩ : ∃ t : q_T, t = q_tu τ102 h110 (158, 16) := ⟨_, rfl⟩
  obtain ⟨σ110, es110⟩ : ∃ t : q_V, t = q_vu σ104 h110 (fun _ => defaultValue (newarray.typeOf .int)) := ⟨_, rfl⟩
  rw [← et110, ← es110]
  have x110 : q_ex τ102 σ104 τ110 σ110 := by rw [et110, es110]; exact q_ex.mk n110 (Or.inl (by decide))
  have T110 : τ110 h110 = some (158, 16) := by rw [et110]; exact q_tu_new
  have z110 : σ110 h110 = (fun _ => defaultValue (newarray.typeOf .int)) := by rw [es110]; exact q_vu_new
  have I110 : q_I τ110 σ110 := by rw [et110, es110]; exact q_I.mk I104 n110 (fun j _ => (show q_v _ _ (.int 0) from q_vi (ai_158.2.2 j) rl_0 (by decide)))
  have A110 := x110.1 a0 _ A102.1
  have F110 : σ110 a0 = updV (updV (updV (updV (updV (updV (updV (updV (updV (updV (updV (updV (σ a0) 0 (.ref h8)) 1 (.ref h17)) 2 (.ref h26)) 3 (.ref h35)) 15 (.ref h44)) 16 (.ref h53)) 17 (.ref h61)) 18 (.ref h69)) 19 (.ref h77)) 20 (.ref h85)) 21 (.ref h94)) 22 (.ref h102) := A110.2.trans F104
  show q_O X 13 2783 τ110 σ110 112 [(0, .ref a0)] [.ref h110, .ref a0]
  refine q_putF (pc := 112) hG hnm fl_X12_47 (fun r hr => by cases hr; rfl) dX12_init_112 A110.1 rfl rfl ?_
  obtain ⟨σ112, es112⟩ : ∃ t : q_V, t = q_up σ110 a0 23 (.ref h110) := ⟨_, rfl⟩
  rw [← es112]
  have I112 : q_I τ110 σ112 := by rw [es112]; exact I110.put A110.1 (fun hj => absurd (show 23 < 0 from hj) (Nat.not_lt_zero _))
  have F112 : σ112 a0 = updV (updV (updV (updV (updV (updV (updV (updV (updV (updV (updV (updV (updV (σ a0) 0 (.ref h8)) 1 (.ref h17)) 2 (.ref h26)) 3 (.ref h35)) 15 (.ref h44)) 16 (.ref h53)) 17 (.ref h61)) 18 (.ref h69)) 19 (.ref h77)) 20 (.ref h85)) 21 (.ref h94)) 22 (.ref h102)) 23 (.ref h110) := by rw [es112, q_upF, F110]
  have x112 : ∀ b, b ≠ a0 → σ112 b = σ110 b := by rw [es112]; exact fun b hb => q_up_ne hb
  show q_O X 13 2783 τ110 σ112 115 [(0, .ref a0)] []
  refine q_aload_n (pc := 115) hG dX12_init_115 0 rfl ?_
  refine q_bipush (pc := 116) hG dX12_init_116 kb_16 ?_
  refine q_newA (pc := 118) (k := 159) (N := 16) (aty := .int) hG w36 dX12_init_118 ⟨by decide, by decide, rfl⟩ tl_16 (by decide) ⟨by decide, by decide⟩ (fun h118 n118 => ?_)
  obtain ⟨τ118, et118⟩ : ∃ t : q_T, t = q_tu τ110 h118 (159, 16) := ⟨_, rfl⟩
  obtain ⟨σ118, es118⟩ : ∃ t : q_V, t = q_vu σ112 h118 (fun _ => defaultValue (newarray.typeOf .int)) := ⟨_, rfl⟩
  rw [← et118, ← es118]
  have x118 : q_ex τ110 σ112 τ118 σ118 := by rw [et118, es118]; exact q_ex.mk n118 (Or.inl (by decide))
  have T118 : τ118 h118 = some (159, 16) := by rw [et118]; exact q_tu_new
  have z118 : σ118 h118 = (fun _ => defaultValue (newarray.typeOf .int)) := by rw [es118]; exact q_vu_new
  have I118 : q_I τ118 σ118 := by rw [et118, es118]; exact q_I.mk I112 n118 (fun j _ => (show q_v _ _ (.int 0) from q_vi (ai_159.2.2 j) rl_0 (by decide)))
  have A118 := x118.1 a0 _ A110.1
  have F118 : σ118 a0 = updV (updV (updV (updV (updV (updV (updV (updV (updV (updV (updV (updV (updV (σ a0) 0 (.ref h8)) 1 (.ref h17)) 2 (.ref h26)) 3 (.ref h35)) 15 (.ref h44)) 16 (.ref h53)) 17 (.ref h61)) 18 (.ref h69)) 19 (.ref h77)) 20 (.ref h85)) 21 (.ref h94)) 22 (.ref h102)) 23 (.ref h110) := A118.2.trans F112
  show q_O X 14 2799 τ118 σ118 120 [(0, .ref a0)] [.ref h118, .ref a0]
  refine q_putF (pc := 120) hG hnm fl_X12_50 (fun r hr => by cases hr; rfl) dX12_init_120 A118.1 rfl rfl ?_
  obtain ⟨σ120, es120⟩ : ∃ t : q_V, t = q_up σ118 a0 24 (.ref h118) := ⟨_, rfl⟩
  rw [← es120]
  have I120 : q_I τ118 σ120 := by rw [es120]; exact I118.put A118.1 (fun hj => absurd (show 24 < 0 from hj) (Nat.not_lt_zero _))
  have F120 : σ120 a0 = updV (updV (updV (updV (updV (updV (updV (updV (updV (updV (updV (updV (updV (updV (σ a0) 0 (.ref h8)) 1 (.ref h17)) 2 (.ref h26)) 3 (.ref h35)) 15 (.ref h44)) 16 (.ref h53)) 17 (.ref h61)) 18 (.ref h69)) 19 (.ref h77)) 20 (.ref h85)) 21 (.ref h94)) 22 (.ref h102)) 23 (.ref h110)) 24 (.ref h118) := by rw [es120, q_upF, F118]
  have x120 : ∀ b, b ≠ a0 → σ120 b = σ118 b := by rw [es120]; exact fun b hb => q_up_ne hb
  show q_O X 14 2799 τ118 σ120 123 [(0, .ref a0)] []
  refine q_aload_n (pc := 123) hG dX12_init_123 0 rfl ?_
  refine q_bipush (pc := 124) hG dX12_init_124 kb_16 ?_
  refine q_newA (pc := 126) (k := 160) (N := 16) (aty := .int) hG w36 dX12_init_126 ⟨by decide, by decide, rfl⟩ tl_16 (by decide) ⟨by decide, by decide⟩ (fun h126 n126 => ?_)
  obtain ⟨τ126, et126⟩ : ∃ t : q_T, t = q_tu τ118 h126 (160, 16) := ⟨_, rfl⟩
  obtain ⟨σ126, es126⟩ : ∃ t : q_V, t = q_vu σ120 h126 (fun _ => defaultValue (newarray.typeOf .int)) := ⟨_, rfl⟩
  rw [← et126, ← es126]
  have x126 : q_ex τ118 σ120 τ126 σ126 := by rw [et126, es126]; exact q_ex.mk n126 (Or.inl (by decide))
  have T126 : τ126 h126 = some (160, 16) := by rw [et126]; exact q_tu_new
  have z126 : σ126 h126 = (fun _ => defaultValue (newarray.typeOf .int)) := by rw [es126]; exact q_vu_new
  have I126 : q_I τ126 σ126 := by rw [et126, es126]; exact q_I.mk I120 n126 (fun j _ => (show q_v _ _ (.int 0) from q_vi (ai_160.2.2 j) rl_0 (by decide)))
  have A126 := x126.1 a0 _ A118.1
  have F126 : σ126 a0 = updV (updV (updV (updV (updV (updV (updV (updV (updV (updV (updV (updV (updV (updV (σ a0) 0 (.ref h8)) 1 (.ref h17)) 2 (.ref h26)) 3 (.ref h35)) 15 (.ref h44)) 16 (.ref h53)) 17 (.ref h61)) 18 (.ref h69)) 19 (.ref h77)) 20 (.ref h85)) 21 (.ref h94)) 22 (.ref h102)) 23 (.ref h110)) 24 (.ref h118) := A126.2.trans F120
  show q_O X 15 2815 τ126 σ126 128 [(0, .ref a0)] [.ref h126, .ref a0]
  refine q_putF (pc := 128) hG hnm fl_X12_53 (fun r hr => by cases hr; rfl) dX12_init_128 A126.1 rfl rfl ?_
  obtain ⟨σ128, es128⟩ : ∃ t : q_V, t = q_up σ126 a0 25 (.ref h126) := ⟨_, rfl⟩
  rw [← es128]
  have I128 : q_I τ126 σ128 := by rw [es128]; exact I126.put A126.1 (fun hj => absurd (show 25 < 0 from hj) (Nat.not_lt_zero _))
  have F128 : σ128 a0 = updV (updV (updV (updV (updV (updV (updV (updV (updV (updV (updV (updV (updV (updV (updV (σ a0) 0 (.ref h8)) 1 (.ref h17)) 2 (.ref h26)) 3 (.ref h35)) 15 (.ref h44)) 16 (.ref h53)) 17 (.ref h61)) 18 (.ref h69)) 19 (.ref h77)) 20 (.ref h85)) 21 (.ref h94)) 22 (.ref h102)) 23 (.ref h110)) 24 (.ref h118)) 25 (.ref h126) := by rw [es128, q_upF, F126]
  have x128 : ∀ b, b ≠ a0 → σ128 b = σ126 b := by rw [es128]; exact fun b hb => q_up_ne hb
  show q_O X 15 2815 τ126 σ128 131 [(0, .ref a0)] []
  refine q_aload_n (pc := 131) hG dX12_init_131 0 rfl ?_
  refine q_bipush (pc := 132) hG dX12_init_132 kb_64 ?_
  refine q_newA (pc := 134) (k := 161) (N := 64) (aty := .int) hG w36 dX12_init_134 ⟨by decide, by decide, rfl⟩ tl_64 (by decide) ⟨by decide, by decide⟩ (fun h134 n134 => ?_)
  obtain ⟨τ134, et134⟩ : ∃ t : q_T, t = q_tu τ126 h134 (161, 64) := ⟨_, rfl⟩
  obtain ⟨σ134, es134⟩ : ∃ t : q_V, t = q_vu σ128 h134 (fun _ => defaultValue (newarray.typeOf .int)) := ⟨_, rfl⟩
  rw [← et134, ← es134]
  have x134 : q_ex τ126 σ128 τ134 σ134 := by rw [et134, es134]; exact q_ex.mk n134 (Or.inl (by decide))
  have T134 : τ134 h134 = some (161, 64) := by rw [et134]; exact q_tu_new
  have z134 : σ134 h134 = (fun _ => defaultValue (newarray.typeOf .int)) := by rw [es134]; exact q_vu_new
  have I134 : q_I τ134 σ134 := by rw [et134, es134]; exact q_I.mk I128 n134 (fun j _ => (show q_v _ _ (.int 0) from q_vi (ai_161.2.2 j) rl_0 (by decide)))
  have A134 := x134.1 a0 _ A126.1
  have F134 : σ134 a0 = updV (updV (updV (updV (updV (updV (updV (updV (updV (updV (updV (updV (updV (updV (updV (σ a0) 0 (.ref h8)) 1 (.ref h17)) 2 (.ref h26)) 3 (.ref h35)) 15 (.ref h44)) 16 (.ref h53)) 17 (.ref h61)) 18 (.ref h69)) 19 (.ref h77)) 20 (.ref h85)) 21 (.ref h94)) 22 (.ref h102)) 23 (.ref h110)) 24 (.ref h118)) 25 (.ref h126) := A134.2.trans F128
  show q_O X 16 2879 τ134 σ134 136 [(0, .ref a0)] [.ref h134, .ref a0]
  refine q_putF (pc := 136) hG hnm fl_X12_56 (fun r hr => by cases hr; rfl) dX12_init_136 A134.1 rfl rfl ?_
  obtain ⟨σ136, es136⟩ : ∃ t : q_V, t = q_up σ134 a0 26 (.ref h134) := ⟨_, rfl⟩
  rw [← es136]
  have I136 : q_I τ134 σ136 := by rw [es136]; exact I134.put A134.1 (fun hj => absurd (show 26 < 0 from hj) (Nat.not_lt_zero _))
  have F136 : σ136 a0 = updV (updV (updV (updV (updV (updV (updV (updV (updV (updV (updV (updV (updV (updV (updV (updV (σ a0) 0 (.ref h8)) 1 (.ref h17)) 2 (.ref h26)) 3 (.ref h35)) 15 (.ref h44)) 16 (.ref h53)) 17 (.ref h61)) 18 (.ref h69)) 19 (.ref h77)) 20 (.ref h85)) 21 (.ref h94)) 22 (.ref h102)) 23 (.ref h110)) 24 (.ref h118)) 25 (.ref h126)) 26 (.ref h134) := by rw [es136, q_upF, F134]
  have x136 : ∀ b, b ≠ a0 → σ136 b = σ134 b := by rw [es136]; exact fun b hb => q_up_ne hb
  show q_O X 16 2879 τ134 σ136 139 [(0, .ref a0)] []
  refine q_aload_n (pc := 139) hG dX12_init_139 0 rfl ?_
  refine q_sipush (pc := 140) hG dX12_init_140 ks_260 ?_
  refine q_newA (pc := 143) (k := 162) (N := 260) (aty := .int) hG w36 dX12_init_143 ⟨by decide, by decide, rfl⟩ tl_260 (by decide) ⟨by decide, by decide⟩ (fun h143 n143 => ?_)
  obtain ⟨τ143, et143⟩ : ∃ t : q_T, t = q_tu τ134 h143 (162, 260) := ⟨_, rfl⟩
  obtain ⟨σ143, es143⟩ : ∃ t : q_V, t = q_vu σ136 h143 (fun _ => defaultValue (newarray.typeOf .int)) := ⟨_, rfl⟩
  rw [← et143, ← es143]
  have x143 : q_ex τ134 σ136 τ143 σ143 := by rw [et143, es143]; exact q_ex.mk n143 (Or.inl (by decide))
  have T143 : τ143 h143 = some (162, 260) := by rw [et143]; exact q_tu_new
  have z143 : σ143 h143 = (fun _ => defaultValue (newarray.typeOf .int)) := by rw [es143]; exact q_vu_new
  have I143 : q_I τ143 σ143 := by rw [et143, es143]; exact q_I.mk I136 n143 (fun j _ => (show q_v _ _ (.int 0) from q_vi (ai_162.2.2 j) rl_0 (by decide)))
  have A143 := x143.1 a0 _ A134.1
  have F143 : σ143 a0 = updV (updV (updV (updV (updV (updV (updV (updV (updV (updV (updV (updV (updV (updV (updV (updV (σ a0) 0 (.ref h8)) 1 (.ref h17)) 2 (.ref h26)) 3 (.ref h35)) 15 (.ref h44)) 16 (.ref h53)) 17 (.ref h61)) 18 (.ref h69)) 19 (.ref h77)) 20 (.ref h85)) 21 (.ref h94)) 22 (.ref h102)) 23 (.ref h110)) 24 (.ref h118)) 25 (.ref h126)) 26 (.ref h134) := A143.2.trans F136
  show q_O X 17 3139 τ143 σ143 145 [(0, .ref a0)] [.ref h143, .ref a0]
  refine q_putF (pc := 145) hG hnm fl_X12_59 (fun r hr => by cases hr; rfl) dX12_init_145 A143.1 rfl rfl ?_
  obtain ⟨σ145, es145⟩ : ∃ t : q_V, t = q_up σ143 a0 27 (.ref h143) := ⟨_, rfl⟩
  rw [← es145]
  have I145 : q_I τ143 σ145 := by rw [es145]; exact I143.put A143.1 (fun hj => absurd (show 27 < 0 from hj) (Nat.not_lt_zero _))
  have F145 : σ145 a0 = updV (updV (updV (updV (updV (updV (updV (updV (updV (updV (updV (updV (updV (updV (updV (updV (updV (σ a0) 0 (.ref h8)) 1 (.ref h17)) 2 (.ref h26)) 3 (.ref h35)) 15 (.ref h44)) 16 (.ref h53)) 17 (.ref h61)) 18 (.ref h69)) 19 (.ref h77)) 20 (.ref h85)) 21 (.ref h94)) 22 (.ref h102)) 23 (.ref h110)) 24 (.ref h118)) 25 (.ref h126)) 26 (.ref h134)) 27 (.ref h143) := by rw [es145, q_upF, F143]
  have x145 : ∀ b, b ≠ a0 → σ145 b = σ143 b := by rw [es145]; exact fun b hb => q_up_ne hb
  show q_O X 17 3139 τ143 σ145 148 [(0, .ref a0)] []
  refine q_aload_n (pc := 148) hG dX12_init_148 0 rfl ?_
  refine q_bipush (pc := 149) hG dX12_init_149 kb_9 ?_
  refine q_newA (pc := 151) (k := 163) (N := 9) (aty := .int) hG w36 dX12_init_151 ⟨by decide, by decide, rfl⟩ tl_9 (by decide) ⟨by decide, by decide⟩ (fun h151 n151 => ?_)
  obtain ⟨τ151, et151⟩ : ∃ t : q_T, t = q_tu τ143 h151 (163, 9) := ⟨_, rfl⟩
  obtain ⟨σ151, es151⟩ : ∃ t : q_V, t = q_vu σ145 h151 (fun _ => defaultValue (newarray.typeOf .int)) := ⟨_, rfl⟩
  rw [← et151, ← es151]
  have x151 : q_ex τ143 σ145 τ151 σ151 := by rw [et151, es151]; exact q_ex.mk n151 (Or.inl (by decide))
  have T151 : τ151 h151 = some (163, 9) := by rw [et151]; exact q_tu_new
  have z151 : σ151 h151 = (fun _ => defaultValue (newarray.typeOf .int)) := by rw [es151]; exact q_vu_new
  have I151 : q_I τ151 σ151 := by rw [et151, es151]; exact q_I.mk I145 n151 (fun j _ => (show q_v _ _ (.int 0) from q_vi (ai_163.2.2 j) rl_0 (by decide)))
  have A151 := x151.1 a0 _ A143.1
  have F151 : σ151 a0 = updV (updV (updV (updV (updV (updV (updV (updV (updV (updV (updV (updV (updV (updV (updV (updV (updV (σ a0) 0 (.ref h8)) 1 (.ref h17)) 2 (.ref h26)) 3 (.ref h35)) 15 (.ref h44)) 16 (.ref h53)) 17 (.ref h61)) 18 (.ref h69)) 19 (.ref h77)) 20 (.ref h85)) 21 (.ref h94)) 22 (.ref h102)) 23 (.ref h110)) 24 (.ref h118)) 25 (.ref h126)) 26 (.ref h134)) 27 (.ref h143) := A151.2.trans F145
  show q_O X 18 3148 τ151 σ151 153 [(0, .ref a0)] [.ref h151, .ref a0]
  refine q_putF (pc := 153) hG hnm fl_X12_62 (fun r hr => by cases hr; rfl) dX12_init_153 A151.1 rfl rfl ?_
  obtain ⟨σ153, es153⟩ : ∃ t : q_V, t = q_up σ151 a0 28 (.ref h151) := ⟨_, rfl⟩
  rw [← es153]
  have I153 : q_I τ151 σ153 := by rw [es153]; exact I151.put A151.1 (fun hj => absurd (show 28 < 0 from hj) (Nat.not_lt_zero _))
  have F153 : σ153 a0 = updV (updV (updV (updV (updV (updV (updV (updV (updV (updV (updV (updV (updV (updV (updV (updV (updV (updV (σ a0) 0 (.ref h8)) 1 (.ref h17)) 2 (.ref h26)) 3 (.ref h35)) 15 (.ref h44)) 16 (.ref h53)) 17 (.ref h61)) 18 (.ref h69)) 19 (.ref h77)) 20 (.ref h85)) 21 (.ref h94)) 22 (.ref h102)) 23 (.ref h110)) 24 (.ref h118)) 25 (.ref h126)) 26 (.ref h134)) 27 (.ref h143)) 28 (.ref h151) := by rw [es153, q_upF, F151]
  have x153 : ∀ b, b ≠ a0 → σ153 b = σ151 b := by rw [es153]; exact fun b hb => q_up_ne hb
  show q_O X 18 3148 τ151 σ153 156 [(0, .ref a0)] []
  refine q_aload_n (pc := 156) hG dX12_init_156 0 rfl ?_
  refine q_sipush (pc := 157) hG dX12_init_157 ks_3904 ?_
  refine q_newA (pc := 160) (k := 164) (N := 3904) (aty := .int) hG w36 dX12_init_160 ⟨by decide, by decide, rfl⟩ tl_3904 (by decide) ⟨by decide, by decide⟩ (fun h160 n160 => ?_)
  obtain ⟨τ160, et160⟩ : ∃ t : q_T, t = q_tu τ151 h160 (164, 3904) := ⟨_, rfl⟩
  obtain ⟨σ160, es160⟩ : ∃ t : q_V, t = q_vu σ153 h160 (fun _ => defaultValue (newarray.typeOf .int)) := ⟨_, rfl⟩
  rw [← et160, ← es160]
  have x160 : q_ex τ151 σ153 τ160 σ160 := by rw [et160, es160]; exact q_ex.mk n160 (Or.inl (by decide))
  have T160 : τ160 h160 = some (164, 3904) := by rw [et160]; exact q_tu_new
  have z160 : σ160 h160 = (fun _ => defaultValue (newarray.typeOf .int)) := by rw [es160]; exact q_vu_new
  have I160 : q_I τ160 σ160 := by rw [et160, es160]; exact q_I.mk I153 n160 (fun j _ => (show q_v _ _ (.int 0) from q_vi (ai_164.2.2 j) rl_0 (by decide)))
  have A160 := x160.1 a0 _ A151.1
  have F160 : σ160 a0 = updV (updV (updV (updV (updV (updV (updV (updV (updV (updV (updV (updV (updV (updV (updV (updV (updV (updV (σ a0) 0 (.ref h8)) 1 (.ref h17)) 2 (.ref h26)) 3 (.ref h35)) 15 (.ref h44)) 16 (.ref h53)) 17 (.ref h61)) 18 (.ref h69)) 19 (.ref h77)) 20 (.ref h85)) 21 (.ref h94)) 22 (.ref h102)) 23 (.ref h110)) 24 (.ref h118)) 25 (.ref h126)) 26 (.ref h134)) 27 (.ref h143)) 28 (.ref h151) := A160.2.trans F153
  show q_O X 19 7052 τ160 σ160 162 [(0, .ref a0)] [.ref h160, .ref a0]
  refine q_putF (pc := 162) hG hnm fl_X12_65 (fun r hr => by cases hr; rfl) dX12_init_162 A160.1 rfl rfl ?_
  obtain ⟨σ162, es162⟩ : ∃ t : q_V, t = q_up σ160 a0 30 (.ref h160) := ⟨_, rfl⟩
  rw [← es162]
  have I162 : q_I τ160 σ162 := by rw [es162]; exact I160.put A160.1 (fun hj => absurd (show 30 < 0 from hj) (Nat.not_lt_zero _))
  have F162 : σ162 a0 = updV (updV (updV (updV (updV (updV (updV (updV (updV (updV (updV (updV (updV (updV (updV (updV (updV (updV (updV (σ a0) 0 (.ref h8)) 1 (.ref h17)) 2 (.ref h26)) 3 (.ref h35)) 15 (.ref h44)) 16 (.ref h53)) 17 (.ref h61)) 18 (.ref h69)) 19 (.ref h77)) 20 (.ref h85)) 21 (.ref h94)) 22 (.ref h102)) 23 (.ref h110)) 24 (.ref h118)) 25 (.ref h126)) 26 (.ref h134)) 27 (.ref h143)) 28 (.ref h151)) 30 (.ref h160) := by rw [es162, q_upF, F160]
  have x162 : ∀ b, b ≠ a0 → σ162 b = σ160 b := by rw [es162]; exact fun b hb => q_up_ne hb
  show q_O X 19 7052 τ160 σ162 165 [(0, .ref a0)] []
  refine q_aload_n (pc := 165) hG dX12_init_165 0 rfl ?_
  refine q_bipush (pc := 166) hG dX12_init_166 kb_64 ?_
  refine q_newA (pc := 168) (k := 165) (N := 64) (aty := .int) hG w36 dX12_init_168 ⟨by decide, by decide, rfl⟩ tl_64 (by decide) ⟨by decide, by decide⟩ (fun h168 n168 => ?_)
  obtain ⟨τ168, et168⟩ : ∃ t : q_T, t = q_tu τ160 h168 (165, 64) := ⟨_, rfl⟩
  obtain ⟨σ168, es168⟩ : ∃ t : q_V, t = q_vu σ162 h168 (fun _ => defaultValue (newarray.typeOf .int)) := ⟨_, rfl⟩
  rw [← et168, ← es168]
  have x168 : q_ex τ160 σ162 τ168 σ168 := by rw [et168, es168]; exact q_ex.mk n168 (Or.inl (by decide))
  have T168 : τ168 h168 = some (165, 64) := by rw [et168]; exact q_tu_new
  have z168 : σ168 h168 = (fun _ => defaultValue (newarray.typeOf .int)) := by rw [es168]; exact q_vu_new
  have I168 : q_I τ168 σ168 := by rw [et168, es168]; exact q_I.mk I162 n168 (fun j _ => (show q_v _ _ (.int 0) from q_vi (ai_165.2.2 j) rl_0 (by decide)))
  have A168 := x168.1 a0 _ A160.1
  have F168 : σ168 a0 = updV (updV (updV (updV (updV (updV (updV (updV (updV (updV (updV (updV (updV (updV (updV (updV (updV (updV (updV (σ a0) 0 (.ref h8)) 1 (.ref h17)) 2 (.ref h26)) 3 (.ref h35)) 15 (.ref h44)) 16 (.ref h53)) 17 (.ref h61)) 18 (.ref h69)) 19 (.ref h77)) 20 (.ref h85)) 21 (.ref h94)) 22 (.ref h102)) 23 (.ref h110)) 24 (.ref h118)) 25 (.ref h126)) 26 (.ref h134)) 27 (.ref h143)) 28 (.ref h151)) 30 (.ref h160) := A168.2.trans F162
  show q_O X 20 7116 τ168 σ168 170 [(0, .ref a0)] [.ref h168, .ref a0]
  refine q_putF (pc := 170) hG hnm fl_X12_68 (fun r hr => by cases hr; rfl) dX12_init_170 A168.1 rfl rfl ?_
  obtain ⟨σ170, es170⟩ : ∃ t : q_V, t = q_up σ168 a0 31 (.ref h168) := ⟨_, rfl⟩
  rw [← es170]
  have I170 : q_I τ168 σ170 := by rw [es170]; exact I168.put A168.1 (fun hj => absurd (show 31 < 0 from hj) (Nat.not_lt_zero _))
  have F170 : σ170 a0 = updV (updV (updV (updV (updV (updV (updV (updV (updV (updV (updV (updV (updV (updV (updV (updV (updV (updV (updV (updV (σ a0) 0 (.ref h8)) 1 (.ref h17)) 2 (.ref h26)) 3 (.ref h35)) 15 (.ref h44)) 16 (.ref h53)) 17 (.ref h61)) 18 (.ref h69)) 19 (.ref h77)) 20 (.ref h85)) 21 (.ref h94)) 22 (.ref h102)) 23 (.ref h110)) 24 (.ref h118)) 25 (.ref h126)) 26 (.ref h134)) 27 (.ref h143)) 28 (.ref h151)) 30 (.ref h160)) 31 (.ref h168) := by rw [es170, q_upF, F168]
  have x170 : ∀ b, b ≠ a0 → σ170 b = σ168 b := by rw [es170]; exact fun b hb => q_up_ne hb
  show q_O X 20 7116 τ168 σ170 173 [(0, .ref a0)] []
  refine q_aload_n (pc := 173) hG dX12_init_173 0 rfl ?_
  refine q_bipush (pc := 174) hG dX12_init_174 kb_64 ?_
  refine q_newA (pc := 176) (k := 166) (N := 64) (aty := .int) hG w36 dX12_init_176 ⟨by decide, by decide, rfl⟩ tl_64 (by decide) ⟨by decide, by decide⟩ (fun h176 n176 => ?_)
  obtain ⟨τ176, et176⟩ : ∃ t : q_T, t = q_tu τ168 h176 (166, 64) := ⟨_, rfl⟩
  obtain ⟨σ176, es176⟩ : ∃ t : q_V, t = q_vu σ170 h176 (fun _ => defaultValue (newarray.typeOf .int)) := ⟨_, rfl⟩
  rw [← et176, ← es176]
  have x176 : q_ex τ168 σ170 τ176 σ176 := by rw [et176, es176]; exact q_ex.mk n176 (Or.inl (by decide))
  have T176 : τ176 h176 = some (166, 64) := by rw [et176]; exact q_tu_new
  have z176 : σ176 h176 = (fun _ => defaultValue (newarray.typeOf .int)) := by rw [es176]; exact q_vu_new
  have I176 : q_I τ176 σ176 := by rw [et176, es176]; exact q_I.mk I170 n176 (fun j _ => (show q_v _ _ (.int 0) from q_vi (ai_166.2.2 j) rl_0 (by decide)))
  have A176 := x176.1 a0 _ A168.1
  have F176 : σ176 a0 = updV (updV (updV (updV (updV (updV (updV (updV (updV (updV (updV (updV (updV (updV (updV (updV (updV (updV (updV (updV (σ a0) 0 (.ref h8)) 1 (.ref h17)) 2 (.ref h26)) 3 (.ref h35)) 15 (.ref h44)) 16 (.ref h53)) 17 (.ref h61)) 18 (.ref h69)) 19 (.ref h77)) 20 (.ref h85)) 21 (.ref h94)) 22 (.ref h102)) 23 (.ref h110)) 24 (.ref h118)) 25 (.ref h126)) 26 (.ref h134)) 27 (.ref h143)) 28 (.ref h151)) 30 (.ref h160)) 31 (.ref h168) := A176.2.trans F170
  show q_O X 21 7180 τ176 σ176 178 [(0, .ref a0)] [.ref h176, .ref a0]
  refine q_putF (pc := 178) hG hnm fl_X12_71 (fun r hr => by cases hr; rfl) dX12_init_178 A176.1 rfl rfl ?_
  obtain ⟨σ178, es178⟩ : ∃ t : q_V, t = q_up σ176 a0 32 (.ref h176) := ⟨_, rfl⟩
  rw [← es178]
  have I178 : q_I τ176 σ178 := by rw [es178]; exact I176.put A176.1 (fun hj => absurd (show 32 < 0 from hj) (Nat.not_lt_zero _))
  have F178 : σ178 a0 = updV (updV (updV (updV (updV (updV (updV (updV (updV (updV (updV (updV (updV (updV (updV (updV (updV (updV (updV (updV (updV (σ a0) 0 (.ref h8)) 1 (.ref h17)) 2 (.ref h26)) 3 (.ref h35)) 15 (.ref h44)) 16 (.ref h53)) 17 (.ref h61)) 18 (.ref h69)) 19 (.ref h77)) 20 (.ref h85)) 21 (.ref h94)) 22 (.ref h102)) 23 (.ref h110)) 24 (.ref h118)) 25 (.ref h126)) 26 (.ref h134)) 27 (.ref h143)) 28 (.ref h151)) 30 (.ref h160)) 31 (.ref h168)) 32 (.ref h176) := by rw [es178, q_upF, F176]
  have x178 : ∀ b, b ≠ a0 → σ178 b = σ176 b := by rw [es178]; exact fun b hb => q_up_ne hb
  show q_O X 21 7180 τ176 σ178 181 [(0, .ref a0)] []
  refine q_aload_n (pc := 181) hG dX12_init_181 0 rfl ?_
  refine q_bipush (pc := 182) hG dX12_init_182 kb_64 ?_
  refine q_newA (pc := 184) (k := 167) (N := 64) (aty := .int) hG w36 dX12_init_184 ⟨by decide, by decide, rfl⟩ tl_64 (by decide) ⟨by decide, by decide⟩ (fun h184 n184 => ?_)
  obtain ⟨τ184, et184⟩ : ∃ t : q_T, t = q_tu τ176 h184 (167, 64) := ⟨_, rfl⟩
  obtain ⟨σ184, es184⟩ : ∃ t : q_V, t = q_vu σ178 h184 (fun _ => defaultValue (newarray.typeOf .int)) := ⟨_, rfl⟩
  rw [← et184, ← es184]
  have x184 : q_ex τ176 σ178 τ184 σ184 := by rw [et184, es184]; exact q_ex.mk n184 (Or.inl (by decide))
  have T184 : τ184 h184 = some (167, 64) := by rw [et184]; exact q_tu_new
  have z184 : σ184 h184 = (fun _ => defaultValue (newarray.typeOf .int)) := by rw [es184]; exact q_vu_new
  have I184 : q_I τ184 σ184 := by rw [et184, es184]; exact q_I.mk I178 n184 (fun j _ => (show q_v _ _ (.int 0) from q_vi (ai_167.2.2 j) rl_0 (by decide)))
  have A184 := x184.1 a0 _ A176.1
  have F184 : σ184 a0 = updV (updV (updV (updV (updV (updV (updV (updV (updV (updV (updV (updV (updV (updV (updV (updV (updV (updV (updV (updV (updV (σ a0) 0 (.ref h8)) 1 (.ref h17)) 2 (.ref h26)) 3 (.ref h35)) 15 (.ref h44)) 16 (.ref h53)) 17 (.ref h61)) 18 (.ref h69)) 19 (.ref h77)) 20 (.ref h85)) 21 (.ref h94)) 22 (.ref h102)) 23 (.ref h110)) 24 (.ref h118)) 25 (.ref h126)) 26 (.ref h134)) 27 (.ref h143)) 28 (.ref h151)) 30 (.ref h160)) 31 (.ref h168)) 32 (.ref h176) := A184.2.trans F178
  show q_O X 22 7244 τ184 σ184 186 [(0, .ref a0)] [.ref h184, .ref a0]
  refine q_putF (pc := 186) hG hnm fl_X12_74 (fun r hr => by cases hr; rfl) dX12_init_186 A184.1 rfl rfl ?_
  obtain ⟨σ186, es186⟩ : ∃ t : q_V, t = q_up σ184 a0 33 (.ref h184) := ⟨_, rfl⟩
  rw [← es186]
  have I186 : q_I τ184 σ186 := by rw [es186]; exact I184.put A184.1 (fun hj => absurd (show 33 < 0 from hj) (Nat.not_lt_zero _))
  have F186 : σ186 a0 = updV (updV (updV (updV (updV (updV (updV (updV (updV (updV (updV (updV (updV (updV (updV (updV (updV (updV (updV (updV (updV (updV (σ a0) 0 (.ref h8)) 1 (.ref h17)) 2 (.ref h26)) 3 (.ref h35)) 15 (.ref h44)) 16 (.ref h53)) 17 (.ref h61)) 18 (.ref h69)) 19 (.ref h77)) 20 (.ref h85)) 21 (.ref h94)) 22 (.ref h102)) 23 (.ref h110)) 24 (.ref h118)) 25 (.ref h126)) 26 (.ref h134)) 27 (.ref h143)) 28 (.ref h151)) 30 (.ref h160)) 31 (.ref h168)) 32 (.ref h176)) 33 (.ref h184) := by rw [es186, q_upF, F184]
  have x186 : ∀ b, b ≠ a0 → σ186 b = σ184 b := by rw [es186]; exact fun b hb => q_up_ne hb
  show q_O X 22 7244 τ184 σ186 189 [(0, .ref a0)] []
  refine q_aload_n (pc := 189) hG dX12_init_189 0 rfl ?_
  refine q_bipush (pc := 190) hG dX12_init_190 kb_64 ?_
  refine q_newA (pc := 192) (k := 168) (N := 64) (aty := .int) hG w36 dX12_init_192 ⟨by decide, by decide, rfl⟩ tl_64 (by decide) ⟨by decide, by decide⟩ (fun h192 n192 => ?_)
  obtain ⟨τ192, et192⟩ : ∃ t : q_T, t = q_tu τ184 h192 (168, 64) := ⟨_, rfl⟩
  obtain ⟨σ192, es192⟩ : ∃ t : q_V, t = q_vu σ186 h192 (fun _ => defaultValue (newarray.typeOf .int)) := ⟨_, rfl⟩
  rw [← et192, ← es192]
  have x192 : q_ex τ184 σ186 τ192 σ192 := by rw [et192, es192]; exact q_ex.mk n192 (Or.inl (by decide))
  have T192 : τ192 h192 = some (168, 64) := by rw [et192]; exact q_tu_new
  have z192 : σ192 h192 = (fun _ => defaultValue (newarray.typeOf .int)) := by rw [es192]; exact q_vu_new
  have I192 : q_I τ192 σ192 := by rw [et192, es192]; exact q_I.mk I186 n192 (fun j _ => (show q_v _ _ (.int 0) from q_vi (ai_168.2.2 j) rl_0 (by decide)))
  have A192 := x192.1 a0 _ A184.1
  have F192 : σ192 a0 = updV (updV (updV (updV (updV (updV (updV (updV (updV (updV (updV (updV (updV (updV (updV (updV (updV (updV (updV (updV (updV (updV (σ a0) 0 (.ref h8)) 1 (.ref h17)) 2 (.ref h26)) 3 (.ref h35)) 15 (.ref h44)) 16 (.ref h53)) 17 (.ref h61)) 18 (.ref h69)) 19 (.ref h77)) 20 (.ref h85)) 21 (.ref h94)) 22 (.ref h102)) 23 (.ref h110)) 24 (.ref h118)) 25 (.ref h126)) 26 (.ref h134)) 27 (.ref h143)) 28 (.ref h151)) 30 (.ref h160)) 31 (.ref h168)) 32 (.ref h176)) 33 (.ref h184) := A192.2.trans F186
  show q_O X 23 7308 τ192 σ192 194 [(0, .ref a0)] [.ref h192, .ref a0]
  refine q_putF (pc := 194) hG hnm fl_X12_77 (fun r hr => by cases hr; rfl) dX12_init_194 A192.1 rfl rfl ?_
  obtain ⟨σ194, es194⟩ : ∃ t : q_V, t = q_up σ192 a0 34 (.ref h192) := ⟨_, rfl⟩
  rw [← es194]
  have I194 : q_I τ192 σ194 := by rw [es194]; exact I192.put A192.1 (fun hj => absurd (show 34 < 0 from hj) (Nat.not_lt_zero _))
  have F194 : σ194 a0 = updV (updV (updV (updV (updV (updV (updV (updV (updV (updV (updV (updV (updV (updV (updV (updV (updV (updV (updV (updV (updV (updV (updV (σ a0) 0 (.ref h8)) 1 (.ref h17)) 2 (.ref h26)) 3 (.ref h35)) 15 (.ref h44)) 16 (.ref h53)) 17 (.ref h61)) 18 (.ref h69)) 19 (.ref h77)) 20 (.ref h85)) 21 (.ref h94)) 22 (.ref h102)) 23 (.ref h110)) 24 (.ref h118)) 25 (.ref h126)) 26 (.ref h134)) 27 (.ref h143)) 28 (.ref h151)) 30 (.ref h160)) 31 (.ref h168)) 32 (.ref h176)) 33 (.ref h184)) 34 (.ref h192) := by rw [es194, q_upF, F192]
  have x194 : ∀ b, b ≠ a0 → σ194 b = σ192 b := by rw [es194]; exact fun b hb => q_up_ne hb
  show q_O X 23 7308 τ192 σ194 197 [(0, .ref a0)] []
  refine q_aload_n (pc := 197) hG dX12_init_197 0 rfl ?_
  refine q_bipush (pc := 198) hG dX12_init_198 kb_64 ?_
  refine q_newA (pc := 200) (k := 169) (N := 64) (aty := .int) hG w36 dX12_init_200 ⟨by decide, by decide, rfl⟩ tl_64 (by decide) ⟨by decide, by decide⟩ (fun h200 n200 => ?_)
  obtain ⟨τ200, et200⟩ : ∃ t : q_T, t = q_tu τ192 h200 (169, 64) := ⟨_, rfl⟩
  obtain ⟨σ200, es200⟩ : ∃ t : q_V, t = q_vu σ194 h200 (fun _ => defaultValue (newarray.typeOf .int)) := ⟨_, rfl⟩
  rw [← et200, ← es200]
  have x200 : q_ex τ192 σ194 τ200 σ200 := by rw [et200, es200]; exact q_ex.mk n200 (Or.inl (by decide))
  have T200 : τ200 h200 = some (169, 64) := by rw [et200]; exact q_tu_new
  have z200 : σ200 h200 = (fun _ => defaultValue (newarray.typeOf .int)) := by rw [es200]; exact q_vu_new
  have I200 : q_I τ200 σ200 := by rw [et200, es200]; exact q_I.mk I194 n200 (fun j _ => (show q_v _ _ (.int 0) from q_vi (ai_169.2.2 j) rl_0 (by decide)))
  have A200 := x200.1 a0 _ A192.1
  have F200 : σ200 a0 = updV (updV (updV (updV (updV (updV (updV (updV (updV (updV (updV (updV (updV (updV (updV (updV (updV (updV (updV (updV (updV (updV (updV (σ a0) 0 (.ref h8)) 1 (.ref h17)) 2 (.ref h26)) 3 (.ref h35)) 15 (.ref h44)) 16 (.ref h53)) 17 (.ref h61)) 18 (.ref h69)) 19 (.ref h77)) 20 (.ref h85)) 21 (.ref h94)) 22 (.ref h102)) 23 (.ref h110)) 24 (.ref h118)) 25 (.ref h126)) 26 (.ref h134)) 27 (.ref h143)) 28 (.ref h151)) 30 (.ref h160)) 31 (.ref h168)) 32 (.ref h176)) 33 (.ref h184)) 34 (.ref h192) := A200.2.trans F194
  show q_O X 24 7372 τ200 σ200 202 [(0, .ref a0)] [.ref h200, .ref a0]
  refine q_putF (pc := 202) hG hnm fl_X12_80 (fun r hr => by cases hr; rfl) dX12_init_202 A200.1 rfl rfl ?_
  obtain ⟨σ202, es202⟩ : ∃ t : q_V, t = q_up σ200 a0 35 (.ref h200) := ⟨_, rfl⟩
  rw [← es202]
  have I202 : q_I τ200 σ202 := by rw [es202]; exact I200.put A200.1 (fun hj => absurd (show 35 < 0 from hj) (Nat.not_lt_zero _))
  have F202 : σ202 a0 = updV (updV (updV (updV (updV (updV (updV (updV (updV (updV (updV (updV (updV (updV (updV (updV (updV (updV (updV (updV (updV (updV (updV (updV (σ a0) 0 (.ref h8)) 1 (.ref h17)) 2 (.ref h26)) 3 (.ref h35)) 15 (.ref h44)) 16 (.ref h53)) 17 (.ref h61)) 18 (.ref h69)) 19 (.ref h77)) 20 (.ref h85)) 21 (.ref h94)) 22 (.ref h102)) 23 (.ref h110)) 24 (.ref h118)) 25 (.ref h126)) 26 (.ref h134)) 27 (.ref h143)) 28 (.ref h151)) 30 (.ref h160)) 31 (.ref h168)) 32 (.ref h176)) 33 (.ref h184)) 34 (.ref h192)) 35 (.ref h200) := by rw [es202, q_upF, F200]
  have x202 : ∀ b, b ≠ a0 → σ202 b = σ200 b := by rw [es202]; exact fun b hb => q_up_ne hb
  show q_O X 24 7372 τ200 σ202 205 [(0, .ref a0)] []
  refine q_aload_n (pc := 205) hG dX12_init_205 0 rfl ?_
  refine q_bipush (pc := 206) hG dX12_init_206 kb_64 ?_
  refine q_newA (pc := 208) (k := 170) (N := 64) (aty := .int) hG w36 dX12_init_208 ⟨by decide, by decide, rfl⟩ tl_64 (by decide) ⟨by decide, by decide⟩ (fun h208 n208 => ?_)
  obtain ⟨τ208, et208⟩ : ∃ t : q_T, t = q_tu τ200 h208 (170, 64) := ⟨_, rfl⟩
  obtain ⟨σ208, es208⟩ : ∃ t : q_V, t = q_vu σ202 h208 (fun _ => defaultValue (newarray.typeOf .int)) := ⟨_, rfl⟩
  rw [← et208, ← es208]
  have x208 : q_ex τ200 σ202 τ208 σ208 := by rw [et208, es208]; exact q_ex.mk n208 (Or.inl (by decide))
  have T208 : τ208 h208 = some (170, 64) := by rw [et208]; exact q_tu_new
  have z208 : σ208 h208 = (fun _ => defaultValue (newarray.typeOf .int)) := by rw [es208]; exact q_vu_new
  have I208 : q_I τ208 σ208 := by rw [et208, es208]; exact q_I.mk I202 n208 (fun j _ => (show q_v _ _ (.int 0) from q_vi (ai_170.2.2 j) rl_0 (by decide)))
  have A208 := x208.1 a0 _ A200.1
  have F208 : σ208 a0 = updV (updV (updV (updV (updV (updV (updV (updV (updV (updV (updV (updV (updV (updV (updV (updV (updV (updV (updV (updV (updV (updV (updV (updV (σ a0) 0 (.ref h8)) 1 (.ref h17)) 2 (.ref h26)) 3 (.ref h35)) 15 (.ref h44)) 16 (.ref h53)) 17 (.ref h61)) 18 (.ref h69)) 19 (.ref h77)) 20 (.ref h85)) 21 (.ref h94)) 22 (.ref h102)) 23 (.ref h110)) 24 (.ref h118)) 25 (.ref h126)) 26 (.ref h134)) 27 (.ref h143)) 28 (.ref h151)) 30 (.ref h160)) 31 (.ref h168)) 32 (.ref h176)) 33 (.ref h184)) 34 (.ref h192)) 35 (.ref h200) := A208.2.trans F202
  show q_O X 25 7436 τ208 σ208 210 [(0, .ref a0)] [.ref h208, .ref a0]
  refine q_putF (pc := 210) hG hnm fl_X12_83 (fun r hr => by cases hr; rfl) dX12_init_210 A208.1 rfl rfl ?_
  obtain ⟨σ210, es210⟩ : ∃ t : q_V, t = q_up σ208 a0 36 (.ref h208) := ⟨_, rfl⟩
  rw [← es210]
  have I210 : q_I τ208 σ210 := by rw [es210]; exact I208.put A208.1 (fun hj => absurd (show 36 < 0 from hj) (Nat.not_lt_zero _))
  have F210 : σ210 a0 = updV (updV (updV (updV (updV (updV (updV (updV (updV (updV (updV (updV (updV (updV (updV (updV (updV (updV (updV (updV (updV (updV (updV (updV (updV (σ a0) 0 (.ref h8)) 1 (.ref h17)) 2 (.ref h26)) 3 (.ref h35)) 15 (.ref h44)) 16 (.ref h53)) 17 (.ref h61)) 18 (.ref h69)) 19 (.ref h77)) 20 (.ref h85)) 21 (.ref h94)) 22 (.ref h102)) 23 (.ref h110)) 24 (.ref h118)) 25 (.ref h126)) 26 (.ref h134)) 27 (.ref h143)) 28 (.ref h151)) 30 (.ref h160)) 31 (.ref h168)) 32 (.ref h176)) 33 (.ref h184)) 34 (.ref h192)) 35 (.ref h200)) 36 (.ref h208) := by rw [es210, q_upF, F208]
  have x210 : ∀ b, b ≠ a0 → σ210 b = σ208 b := by rw [es210]; exact fun b hb => q_up_ne hb
  show q_O X 25 7436 τ208 σ210 213 [(0, .ref a0)] []
  refine q_aload_n (pc := 213) hG dX12_init_213 0 rfl ?_
  refine q_iconst (pc := 214) hG dX12_init_214 ki_2 ?_
  refine q_newA (pc := 215) (k := 171) (N := 2) (aty := .int) hG w36 dX12_init_215 ⟨by decide, by decide, rfl⟩ tl_2 (by decide) ⟨by decide, by decide⟩ (fun h215 n215 => ?_)
  obtain ⟨τ215, et215⟩ : ∃ t : q_T, t = q_tu τ208 h215 (171, 2) := ⟨_, rfl⟩
  obtain ⟨σ215, es215⟩ : ∃ t : q_V, t = q_vu σ210 h215 (fun _ => defaultValue (newarray.typeOf .int)) := ⟨_, rfl⟩
  rw [← et215, ← es215]
  have x215 : q_ex τ208 σ210 τ215 σ215 := by rw [et215, es215]; exact q_ex.mk n215 (Or.inl (by decide))
  have T215 : τ215 h215 = some (171, 2) := by rw [et215]; exact q_tu_new
  have z215 : σ215 h215 = (fun _ => defaultValue (newarray.typeOf .int)) := by rw [es215]; exact q_vu_new
  have I215 : q_I τ215 σ215 := by rw [et215, es215]; exact q_I.mk I210 n215 (fun j _ => (show q_v _ _ (.int 0) from q_vi (ai_171.2.2 j) rl_0 (by decide)))
  have A215 := x215.1 a0 _ A208.1
  have F215 : σ215 a0 = updV (updV (updV (updV (updV (updV (updV (updV (updV (updV (updV (updV (updV (updV (updV (updV (updV (updV (updV (updV (updV (updV (updV (updV (updV (σ a0) 0 (.ref h8)) 1 (.ref h17)) 2 (.ref h26)) 3 (.ref h35)) 15 (.ref h44)) 16 (.ref h53)) 17 (.ref h61)) 18 (.ref h69)) 19 (.ref h77)) 20 (.ref h85)) 21 (.ref h94)) 22 (.ref h102)) 23 (.ref h110)) 24 (.ref h118)) 25 (.ref h126)) 26 (.ref h134)) 27 (.ref h143)) 28 (.ref h151)) 30 (.ref h160)) 31 (.ref h168)) 32 (.ref h176)) 33 (.ref h184)) 34 (.ref h192)) 35 (.ref h200)) 36 (.ref h208) := A215.2.trans F210
  show q_O X 26 7438 τ215 σ215 217 [(0, .ref a0)] [.ref h215, .ref a0]
  refine q_putF (pc := 217) hG hnm fl_X12_86 (fun r hr => by cases hr; rfl) dX12_init_217 A215.1 rfl rfl ?_
  obtain ⟨σ217, es217⟩ : ∃ t : q_V, t = q_up σ215 a0 37 (.ref h215) := ⟨_, rfl⟩
  rw [← es217]
  have I217 : q_I τ215 σ217 := by rw [es217]; exact I215.put A215.1 (fun hj => absurd (show 37 < 0 from hj) (Nat.not_lt_zero _))
  have F217 : σ217 a0 = updV (updV (updV (updV (updV (updV (updV (updV (updV (updV (updV (updV (updV (updV (updV (updV (updV (updV (updV (updV (updV (updV (updV (updV (updV (updV (σ a0) 0 (.ref h8)) 1 (.ref h17)) 2 (.ref h26)) 3 (.ref h35)) 15 (.ref h44)) 16 (.ref h53)) 17 (.ref h61)) 18 (.ref h69)) 19 (.ref h77)) 20 (.ref h85)) 21 (.ref h94)) 22 (.ref h102)) 23 (.ref h110)) 24 (.ref h118)) 25 (.ref h126)) 26 (.ref h134)) 27 (.ref h143)) 28 (.ref h151)) 30 (.ref h160)) 31 (.ref h168)) 32 (.ref h176)) 33 (.ref h184)) 34 (.ref h192)) 35 (.ref h200)) 36 (.ref h208)) 37 (.ref h215) := by rw [es217, q_upF, F215]
  have x217 : ∀ b, b ≠ a0 → σ217 b = σ215 b := by rw [es217]; exact fun b hb => q_up_ne hb
  show q_O X 26 7438 τ215 σ217 220 [(0, .ref a0)] []
  refine q_aload_n (pc := 220) hG dX12_init_220 0 rfl ?_
  refine q_iconst (pc := 221) hG dX12_init_221 ki_2 ?_
  refine q_newA (pc := 222) (k := 172) (N := 2) (aty := .int) hG w36 dX12_init_222 ⟨by decide, by decide, rfl⟩ tl_2 (by decide) ⟨by decide, by decide⟩ (fun h222 n222 => ?_)
  obtain ⟨τ222, et222⟩ : ∃ t : q_T, t = q_tu τ215 h222 (172, 2) := ⟨_, rfl⟩
  obtain ⟨σ222, es222⟩ : ∃ t : q_V, t = q_vu σ217 h222 (fun _ => defaultValue (newarray.typeOf .int)) := ⟨_, rfl⟩
  rw [← et222, ← es222]
  have x222 : q_ex τ215 σ217 τ222 σ222 := by rw [et222, es222]; exact q_ex.mk n222 (Or.inl (by decide))
  have T222 : τ222 h222 = some (172, 2) := by rw [et222]; exact q_tu_new
  have z222 : σ222 h222 = (fun _ => defaultValue (newarray.typeOf .int)) := by rw [es222]; exact q_vu_new
  have I222 : q_I τ222 σ222 := by rw [et222, es222]; exact q_I.mk I217 n222 (fun j _ => (show q_v _ _ (.int 0) from q_vi (ai_172.2.2 j) rl_0 (by decide)))
  have A222 := x222.1 a0 _ A215.1
  have F222 : σ222 a0 = updV (updV (updV (updV (updV (updV (updV (updV (updV (updV (updV (updV (updV (updV (updV (updV (updV (updV (updV (updV (updV (updV (updV (updV (updV (updV (σ a0) 0 (.ref h8)) 1 (.ref h17)) 2 (.ref h26)) 3 (.ref h35)) 15 (.ref h44)) 16 (.ref h53)) 17 (.ref h61)) 18 (.ref h69)) 19 (.ref h77)) 20 (.ref h85)) 21 (.ref h94)) 22 (.ref h102)) 23 (.ref h110)) 24 (.ref h118)) 25 (.ref h126)) 26 (.ref h134)) 27 (.ref h143)) 28 (.ref h151)) 30 (.ref h160)) 31 (.ref h168)) 32 (.ref h176)) 33 (.ref h184)) 34 (.ref h192)) 35 (.ref h200)) 36 (.ref h208)) 37 (.ref h215) := A222.2.trans F217
  show q_O X 27 7440 τ222 σ222 224 [(0, .ref a0)] [.ref h222, .ref a0]
  refine q_putF (pc := 224) hG hnm fl_X12_89 (fun r hr => by cases hr; rfl) dX12_init_224 A222.1 rfl rfl ?_
  obtain ⟨σ224, es224⟩ : ∃ t : q_V, t = q_up σ222 a0 38 (.ref h222) := ⟨_, rfl⟩
  rw [← es224]
  have I224 : q_I τ222 σ224 := by rw [es224]; exact I222.put A222.1 (fun hj => absurd (show 38 < 0 from hj) (Nat.not_lt_zero _))
  have F224 : σ224 a0 = updV (updV (updV (updV (updV (updV (updV (updV (updV (updV (updV (updV (updV (updV (updV (updV (updV (updV (updV (updV (updV (updV (updV (updV (updV (updV (updV (σ a0) 0 (.ref h8)) 1 (.ref h17)) 2 (.ref h26)) 3 (.ref h35)) 15 (.ref h44)) 16 (.ref h53)) 17 (.ref h61)) 18 (.ref h69)) 19 (.ref h77)) 20 (.ref h85)) 21 (.ref h94)) 22 (.ref h102)) 23 (.ref h110)) 24 (.ref h118)) 25 (.ref h126)) 26 (.ref h134)) 27 (.ref h143)) 28 (.ref h151)) 30 (.ref h160)) 31 (.ref h168)) 32 (.ref h176)) 33 (.ref h184)) 34 (.ref h192)) 35 (.ref h200)) 36 (.ref h208)) 37 (.ref h215)) 38 (.ref h222) := by rw [es224, q_upF, F222]
  have x224 : ∀ b, b ≠ a0 → σ224 b = σ222 b := by rw [es224]; exact fun b hb => q_up_ne hb
  show q_O X 27 7440 τ222 σ224 227 [(0, .ref a0)] []
  refine q_aload_n (pc := 227) hG dX12_init_227 0 rfl ?_
  refine q_sipush (pc := 228) hG dX12_init_228 ks_325 ?_
  refine q_newA (pc := 231) (k := 173) (N := 325) (aty := .int) hG w36 dX12_init_231 ⟨by decide, by decide, rfl⟩ tl_325 (by decide) ⟨by decide, by decide⟩ (fun h231 n231 => ?_)
  obtain ⟨τ231, et231⟩ : ∃ t : q_T, t = q_tu τ222 h231 (173, 325) := ⟨_, rfl⟩
  obtain ⟨σ231, es231⟩ : ∃ t : q_V, t = q_vu σ224 h231 (fun _ => defaultValue (newarray.typeOf .int)) := ⟨_, rfl⟩
  rw [← et231, ← es231]
  have x231 : q_ex τ222 σ224 τ231 σ231 := by rw [et231, es231]; exact q_ex.mk n231 (Or.inl (by decide))
  have T231 : τ231 h231 = some (173, 325) := by rw [et231]; exact q_tu_new
  have z231 : σ231 h231 = (fun _ => defaultValue (newarray.typeOf .int)) := by rw [es231]; exact q_vu_new
  have I231 : q_I τ231 σ231 := by rw [et231, es231]; exact q_I.mk I224 n231 (fun j _ => (show q_v _ _ (.int 0) from q_vi (ai_173.2.2 j) rl_0 (by decide)))
  have A231 := x231.1 a0 _ A222.1
  have F231 : σ231 a0 = updV (updV (updV (updV (updV (updV (updV (updV (updV (updV (updV (updV (updV (updV (updV (updV (updV (updV (updV (updV (updV (updV (updV (updV (updV (updV (updV (σ a0) 0 (.ref h8)) 1 (.ref h17)) 2 (.ref h26)) 3 (.ref h35)) 15 (.ref h44)) 16 (.ref h53)) 17 (.ref h61)) 18 (.ref h69)) 19 (.ref h77)) 20 (.ref h85)) 21 (.ref h94)) 22 (.ref h102)) 23 (.ref h110)) 24 (.ref h118)) 25 (.ref h126)) 26 (.ref h134)) 27 (.ref h143)) 28 (.ref h151)) 30 (.ref h160)) 31 (.ref h168)) 32 (.ref h176)) 33 (.ref h184)) 34 (.ref h192)) 35 (.ref h200)) 36 (.ref h208)) 37 (.ref h215)) 38 (.ref h222) := A231.2.trans F224
  show q_O X 28 7765 τ231 σ231 233 [(0, .ref a0)] [.ref h231, .ref a0]
  refine q_putF (pc := 233) hG hnm fl_X12_92 (fun r hr => by cases hr; rfl) dX12_init_233 A231.1 rfl rfl ?_
  obtain ⟨σ233, es233⟩ : ∃ t : q_V, t = q_up σ231 a0 43 (.ref h231) := ⟨_, rfl⟩
  rw [← es233]
  have I233 : q_I τ231 σ233 := by rw [es233]; exact I231.put A231.1 (fun hj => absurd (show 43 < 0 from hj) (Nat.not_lt_zero _))
  have F233 : σ233 a0 = updV (updV (updV (updV (updV (updV (updV (updV (updV (updV (updV (updV (updV (updV (updV (updV (updV (updV (updV (updV (updV (updV (updV (updV (updV (updV (updV (updV (σ a0) 0 (.ref h8)) 1 (.ref h17)) 2 (.ref h26)) 3 (.ref h35)) 15 (.ref h44)) 16 (.ref h53)) 17 (.ref h61)) 18 (.ref h69)) 19 (.ref h77)) 20 (.ref h85)) 21 (.ref h94)) 22 (.ref h102)) 23 (.ref h110)) 24 (.ref h118)) 25 (.ref h126)) 26 (.ref h134)) 27 (.ref h143)) 28 (.ref h151)) 30 (.ref h160)) 31 (.ref h168)) 32 (.ref h176)) 33 (.ref h184)) 34 (.ref h192)) 35 (.ref h200)) 36 (.ref h208)) 37 (.ref h215)) 38 (.ref h222)) 43 (.ref h231) := by rw [es233, q_upF, F231]
  have x233 : ∀ b, b ≠ a0 → σ233 b = σ231 b := by rw [es233]; exact fun b hb => q_up_ne hb
  show q_O X 28 7765 τ231 σ233 236 [(0, .ref a0)] []
  refine q_aload_n (pc := 236) hG dX12_init_236 0 rfl ?_
  refine q_iconst (pc := 237) hG dX12_init_237 ki_4 ?_
  refine q_newA (pc := 238) (k := 174) (N := 4) (aty := .int) hG w36 dX12_init_238 ⟨by decide, by decide, rfl⟩ tl_4 (by decide) ⟨by decide, by decide⟩ (fun h238 n238 => ?_)
  obtain ⟨τ238, et238⟩ : ∃ t : q_T, t = q_tu τ231 h238 (174, 4) := ⟨_, rfl⟩
  obtain ⟨σ238, es238⟩ : ∃ t : q_V, t = q_vu σ233 h238 (fun _ => defaultValue (newarray.typeOf .int)) := ⟨_, rfl⟩
  rw [← et238, ← es238]
  have x238 : q_ex τ231 σ233 τ238 σ238 := by rw [et238, es238]; exact q_ex.mk n238 (Or.inl (by decide))
  have T238 : τ238 h238 = some (174, 4) := by rw [et238]; exact q_tu_new
  have z238 : σ238 h238 = (fun _ => defaultValue (newarray.typeOf .int)) := by rw [es238]; exact q_vu_new
  have I238 : q_I τ238 σ238 := by rw [et238, es238]; exact q_I.mk I233 n238 (fun j _ => (show q_v _ _ (.int 0) from q_vi (ai_174.2.2 j) rl_0 (by decide)))
  have A238 := x238.1 a0 _ A231.1
  have F238 : σ238 a0 = updV (updV (updV (updV (updV (updV (updV (updV (updV (updV (updV (updV (updV (updV (updV (updV (updV (updV (updV (updV (updV (updV (updV (updV (updV (updV (updV (updV (σ a0) 0 (.ref h8)) 1 (.ref h17)) 2 (.ref h26)) 3 (.ref h35)) 15 (.ref h44)) 16 (.ref h53)) 17 (.ref h61)) 18 (.ref h69)) 19 (.ref h77)) 20 (.ref h85)) 21 (.ref h94)) 22 (.ref h102)) 23 (.ref h110)) 24 (.ref h118)) 25 (.ref h126)) 26 (.ref h134)) 27 (.ref h143)) 28 (.ref h151)) 30 (.ref h160)) 31 (.ref h168)) 32 (.ref h176)) 33 (.ref h184)) 34 (.ref h192)) 35 (.ref h200)) 36 (.ref h208)) 37 (.ref h215)) 38 (.ref h222)) 43 (.ref h231) := A238.2.trans F233
  show q_O X 29 7769 τ238 σ238 240 [(0, .ref a0)] [.ref h238, .ref a0]
  refine q_putF (pc := 240) hG hnm fl_X12_95 (fun r hr => by cases hr; rfl) dX12_init_240 A238.1 rfl rfl ?_
  obtain ⟨σ240, es240⟩ : ∃ t : q_V, t = q_up σ238 a0 44 (.ref h238) := ⟨_, rfl⟩
  rw [← es240]
  have I240 : q_I τ238 σ240 := by rw [es240]; exact I238.put A238.1 (fun hj => absurd (show 44 < 0 from hj) (Nat.not_lt_zero _))
  have F240 : σ240 a0 = updV (updV (updV (updV (updV (updV (updV (updV (updV (updV (updV (updV (updV (updV (updV (updV (updV (updV (updV (updV (updV (updV (updV (updV (updV (updV (updV (updV (updV (σ a0) 0 (.ref h8)) 1 (.ref h17)) 2 (.ref h26)) 3 (.ref h35)) 15 (.ref h44)) 16 (.ref h53)) 17 (.ref h61)) 18 (.ref h69)) 19 (.ref h77)) 20 (.ref h85)) 21 (.ref h94)) 22 (.ref h102)) 23 (.ref h110)) 24 (.ref h118)) 25 (.ref h126)) 26 (.ref h134)) 27 (.ref h143)) 28 (.ref h151)) 30 (.ref h160)) 31 (.ref h168)) 32 (.ref h176)) 33 (.ref h184)) 34 (.ref h192)) 35 (.ref h200)) 36 (.ref h208)) 37 (.ref h215)) 38 (.ref h222)) 43 (.ref h231)) 44 (.ref h238) := by rw [es240, q_upF, F238]
  have x240 : ∀ b, b ≠ a0 → σ240 b = σ238 b := by rw [es240]; exact fun b hb => q_up_ne hb
  show q_O X 29 7769 τ238 σ240 243 [(0, .ref a0)] []
  have zz10 : σ10 h8 = _ := (x10 h8 NE).trans z8
  have zz17 : σ17 h8 = _ := (x17.1 h8 _ T8).2.trans zz10
  have tt17 := (x17.1 h8 _ T8).1
  have zz19 : σ19 h8 = _ := (x19 h8 NE).trans zz17
  have zz26 : σ26 h8 = _ := (x26.1 h8 _ tt17).2.trans zz19
  have tt26 := (x26.1 h8 _ tt17).1
  have zz28 : σ28 h8 = _ := (x28 h8 NE).trans zz26
  have zz35 : σ35 h8 = _ := (x35.1 h8 _ tt26).2.trans zz28
  have tt35 := (x35.1 h8 _ tt26).1
  have zz37 : σ37 h8 = _ := (x37 h8 NE).trans zz35
  have zz44 : σ44 h8 = _ := (x44.1 h8 _ tt35).2.trans zz37
  have tt44 := (x44.1 h8 _ tt35).1
  have zz46 : σ46 h8 = _ := (x46 h8 NE).trans zz44
  have zz53 : σ53 h8 = _ := (x53.1 h8 _ tt44).2.trans zz46
  have tt53 := (x53.1 h8 _ tt44).1
  have zz55 : σ55 h8 = _ := (x55 h8 NE).trans zz53
  have zz61 : σ61 h8 = _ := (x61.1 h8 _ tt53).2.trans zz55
  have tt61 := (x61.1 h8 _ tt53).1
  have zz63 : σ63 h8 = _ := (x63 h8 NE).trans zz61
  have zz69 : σ69 h8 = _ := (x69.1 h8 _ tt61).2.trans zz63
  have tt69 := (x69.1 h8 _ tt61).1
  have zz71 : σ71 h8 = _ := (x71 h8 NE).trans zz69
  have zz77 : σ77 h8 = _ := (x77.1 h8 _ tt69).2.trans zz71
  have tt77 := (x77.1 h8 _ tt69).1
  have zz79 : σ79 h8 = _ := (x79 h8 NE).trans zz77
  have zz85 : σ85 h8 = _ := (x85.1 h8 _ tt77).2.trans zz79
  have tt85 := (x85.1 h8 _ tt77).1
  have zz87 : σ87 h8 = _ := (x87 h8 NE).trans zz85
  have zz94 : σ94 h8 = _ := (x94.1 h8 _ tt85).2.trans zz87
  have tt94 := (x94.1 h8 _ tt85).1
  have zz96 : σ96 h8 = _ := (x96 h8 NE).trans zz94
  have zz102 : σ102 h8 = _ := (x102.1 h8 _ tt94).2.trans zz96
  have tt102 := (x102.1 h8 _ tt94).1
  have zz104 : σ104 h8 = _ := (x104 h8 NE).trans zz102
  have zz110 : σ110 h8 = _ := (x110.1 h8 _ tt102).2.trans zz104
  have tt110 := (x110.1 h8 _ tt102).1
  have zz112 : σ112 h8 = _ := (x112 h8 NE).trans zz110
  have zz118 : σ118 h8 = _ := (x118.1 h8 _ tt110).2.trans zz112
  have tt118 := (x118.1 h8 _ tt110).1
  have zz120 : σ120 h8 = _ := (x120 h8 NE).trans zz118
  have zz126 : σ126 h8 = _ := (x126.1 h8 _ tt118).2.trans zz120
  have tt126 := (x126.1 h8 _ tt118).1
  have zz128 : σ128 h8 = _ := (x128 h8 NE).trans zz126
  have zz134 : σ134 h8 = _ := (x134.1 h8 _ tt126).2.trans zz128
  have tt134 := (x134.1 h8 _ tt126).1
  have zz136 : σ136 h8 = _ := (x136 h8 NE).trans zz134
  have zz143 : σ143 h8 = _ := (x143.1 h8 _ tt134).2.trans zz136
  have tt143 := (x143.1 h8 _ tt134).1
  have zz145 : σ145 h8 = _ := (x145 h8 NE).trans zz143
  have zz151 : σ151 h8 = _ := (x151.1 h8 _ tt143).2.trans zz145
  have tt151 := (x151.1 h8 _ tt143).1
  have zz153 : σ153 h8 = _ := (x153 h8 NE).trans zz151
  have zz160 : σ160 h8 = _ := (x160.1 h8 _ tt151).2.trans zz153
  have tt160 := (x160.1 h8 _ tt151).1
  have zz162 : σ162 h8 = _ := (x162 h8 NE).trans zz160
  have zz168 : σ168 h8 = _ := (x168.1 h8 _ tt160).2.trans zz162
  have tt168 := (x168.1 h8 _ tt160).1
  have zz170 : σ170 h8 = _ := (x170 h8 NE).trans zz168
  have zz176 : σ176 h8 = _ := (x176.1 h8 _ tt168).2.trans zz170
  have tt176 := (x176.1 h8 _ tt168).1
  have zz178 : σ178 h8 = _ := (x178 h8 NE).trans zz176
  have zz184 : σ184 h8 = _ := (x184.1 h8 _ tt176).2.trans zz178
  have tt184 := (x184.1 h8 _ tt176).1
  have zz186 : σ186 h8 = _ := (x186 h8 NE).trans zz184
  have zz192 : σ192 h8 = _ := (x192.1 h8 _ tt184).2.trans zz186
  have tt192 := (x192.1 h8 _ tt184).1
  have zz194 : σ194 h8 = _ := (x194 h8 NE).trans zz192
  have zz200 : σ200 h8 = _ := (x200.1 h8 _ tt192).2.trans zz194
  have tt200 := (x200.1 h8 _ tt192).1
  have zz202 : σ202 h8 = _ := (x202 h8 NE).trans zz200
  have zz208 : σ208 h8 = _ := (x208.1 h8 _ tt200).2.trans zz202
  have tt208 := (x208.1 h8 _ tt200).1
  have zz210 : σ210 h8 = _ := (x210 h8 NE).trans zz208
  have zz215 : σ215 h8 = _ := (x215.1 h8 _ tt208).2.trans zz210
  have tt215 := (x215.1 h8 _ tt208).1
  have zz217 : σ217 h8 = _ := (x217 h8 NE).trans zz215
  have zz222 : σ222 h8 = _ := (x222.1 h8 _ tt215).2.trans zz217
  have tt222 := (x222.1 h8 _ tt215).1
  have zz224 : σ224 h8 = _ := (x224 h8 NE).trans zz222
  have zz231 : σ231 h8 = _ := (x231.1 h8 _ tt222).2.trans zz224
  have tt231 := (x231.1 h8 _ tt222).1
  have zz233 : σ233 h8 = _ := (x233 h8 NE).trans zz231
  have zz238 : σ238 h8 = _ := (x238.1 h8 _ tt231).2.trans zz233
  have tt238 := (x238.1 h8 _ tt231).1
  have zz240 : σ240 h8 = _ := (x240 h8 NE).trans zz238
  refine q_aload_n (pc := 243) hG dX12_init_243 0 rfl ?_
  refine q_getV (pc := 244) (v := .ref h8) hG fl_X12_7 dX12_init_244 A238.1 (by rw [F240]; rfl) ?_
  refine q_sipush (pc := 247) hG dX12_init_247 ks_514 ?_
  refine q_bipush (pc := 250) hG dX12_init_250 kb_64 ?_
  refine q_iastV (pc := 252) hG dX12_init_252 tt238 (by decide) (by decide) (q_ix rl_514 (by decide)) ?_
  obtain ⟨σ252, es252⟩ : ∃ t : q_V, t = q_up σ240 h8 (514 : Int32).toInt.toNat (.int 64) := ⟨_, rfl⟩
  rw [← es252]
  have I252 : q_I τ238 σ252 := by rw [es252]; exact I240.put tt238 (fun _ => q_vi (ai_103.2.2 _) rl_64 (by decide))
  have F252 : σ252 a0 = updV (updV (updV (updV (updV (updV (updV (updV (updV (updV (updV (updV (updV (updV (updV (updV (updV (updV (updV (updV (updV (updV (updV (updV (updV (updV (updV (updV (updV (σ a0) 0 (.ref h8)) 1 (.ref h17)) 2 (.ref h26)) 3 (.ref h35)) 15 (.ref h44)) 16 (.ref h53)) 17 (.ref h61)) 18 (.ref h69)) 19 (.ref h77)) 20 (.ref h85)) 21 (.ref h94)) 22 (.ref h102)) 23 (.ref h110)) 24 (.ref h118)) 25 (.ref h126)) 26 (.ref h134)) 27 (.ref h143)) 28 (.ref h151)) 30 (.ref h160)) 31 (.ref h168)) 32 (.ref h176)) 33 (.ref h184)) 34 (.ref h192)) 35 (.ref h200)) 36 (.ref h208)) 37 (.ref h215)) 38 (.ref h222)) 43 (.ref h231)) 44 (.ref h238) := by rw [es252, q_up_ne (Ne.symm NE), F240]
  have zz252 : ∀ j : Nat, j < 64 → σ252 h8 j = .int 0 := fun j hj => by rw [es252, q_up_slot (show j ≠ _ by rw [show (514 : Int32).toInt.toNat = 514 by decide]; omega)]; exact congrFun zz240 j
  refine q_aload_n (pc := 253) hG dX12_init_253 0 rfl ?_
  refine q_getV (pc := 254) (v := .ref h8) hG fl_X12_7 dX12_init_254 A238.1 (by rw [F252]; rfl) ?_
  refine q_sipush (pc := 257) hG dX12_init_257 ks_515 ?_
  refine q_bipush (pc := 260) hG dX12_init_260 kb_m2 ?_
  refine q_iastV (pc := 262) hG dX12_init_262 tt238 (by decide) (by decide) (q_ix rl_515 (by decide)) ?_
  obtain ⟨σ262, es262⟩ : ∃ t : q_V, t = q_up σ252 h8 (515 : Int32).toInt.toNat (.int (-2)) := ⟨_, rfl⟩
  rw [← es262]
  have I262 : q_I τ238 σ262 := by rw [es262]; exact I252.put tt238 (fun _ => q_vi (ai_103.2.2 _) rl_m2 (by decide))
  have F262 : σ262 a0 = updV (updV (updV (updV (updV (updV (updV (updV (updV (updV (updV (updV (updV (updV (updV (updV (updV (updV (updV (updV (updV (updV (updV (updV (updV (updV (updV (updV (updV (σ a0) 0 (.ref h8)) 1 (.ref h17)) 2 (.ref h26)) 3 (.ref h35)) 15 (.ref h44)) 16 (.ref h53)) 17 (.ref h61)) 18 (.ref h69)) 19 (.ref h77)) 20 (.ref h85)) 21 (.ref h94)) 22 (.ref h102)) 23 (.ref h110)) 24 (.ref h118)) 25 (.ref h126)) 26 (.ref h134)) 27 (.ref h143)) 28 (.ref h151)) 30 (.ref h160)) 31 (.ref h168)) 32 (.ref h176)) 33 (.ref h184)) 34 (.ref h192)) 35 (.ref h200)) 36 (.ref h208)) 37 (.ref h215)) 38 (.ref h222)) 43 (.ref h231)) 44 (.ref h238) := by rw [es262, q_up_ne (Ne.symm NE), F252]
  have zz262 : ∀ j : Nat, j < 64 → σ262 h8 j = .int 0 := fun j hj => by rw [es262, q_up_slot (show j ≠ _ by rw [show (515 : Int32).toInt.toNat = 515 by decide]; omega)]; exact zz252 j hj
  refine q_aload_n (pc := 263) hG dX12_init_263 0 rfl ?_
  refine q_bipush (pc := 264) hG dX12_init_264 kb_16 ?_
  refine q_cVi (pc := 266) [.int 16] [] hG (c_X12_road_raw τ238 σ262 a0 16 I262 A238.1 rl_16 h8 (by rw [F262]; rfl) tt238 (fun j hj => ⟨0, zz262 j hj, ⟨by decide, by decide⟩⟩)) my_X12_road mv_X12_road w773 dX12_init_266 A238.1 (by decide) rfl rfl (Nat.le_of_ble_eq_true rfl) ⟨by decide, by decide, by decide, by decide⟩ (fun v266 σ266 p266 => ?_)
  obtain ⟨pA266, pB266, pF266, pC266⟩ := p266
  have p266 := And.intro pA266 (And.intro pB266 pC266)
  refine q_pop (pc := 269) hG dX12_init_269 rfl ?_
  have j514 : (514 : Int32).toInt.toNat = 514 := by decide
  have j515 : (515 : Int32).toInt.toNat = 515 := by decide
  have rz513 : fx_N σ262 h8 513 = 0 := by show fx_num (σ262 h8 513) = 0; rw [es262, j515, q_up_slot (show 513 ≠ 515 by decide), es252, j514, q_up_slot (show 513 ≠ 514 by decide), zz240]; exact tl_0
  have rz518 : fx_N σ262 h8 518 = 0 := by show fx_num (σ262 h8 518) = 0; rw [es262, j515, q_up_slot (show 518 ≠ 515 by decide), es252, j514, q_up_slot (show 518 ≠ 514 by decide), zz240]; exact tl_0
  have rz519 : fx_N σ262 h8 519 = 0 := by show fx_num (σ262 h8 519) = 0; rw [es262, j515, q_up_slot (show 519 ≠ 515 by decide), es252, j514, q_up_slot (show 519 ≠ 514 by decide), zz240]; exact tl_0
  have rz524 : fx_N σ262 h8 524 = 0 := by show fx_num (σ262 h8 524) = 0; rw [es262, j515, q_up_slot (show 524 ≠ 515 by decide), es252, j514, q_up_slot (show 524 ≠ 514 by decide), zz240]; exact tl_0
  have rz514 : fx_N σ262 h8 514 = 64 := by show fx_num (σ262 h8 514) = 64; rw [es262, j515, q_up_slot (show 514 ≠ 515 by decide), es252, j514, q_up_same]; exact tl_64
  have rz515 : fx_N σ262 h8 515 = -2 := by show fx_num (σ262 h8 515) = -2; rw [es262, j515, q_up_same]; exact tl_m2
  obtain ⟨ZR, ZF⟩ := zw_first (v := fx_N σ262) (w := fx_N σ266) (a2 := a0) (b := h8) (zz_NRc (by rw [F262]; rfl)) (Ne.symm NE) ⟨rz513, rz514, rz515⟩ ⟨rz518, rz519⟩ rz524 (pF266.trans (by rw [tl_16]))
  have F266 : σ266 a0 = updV (updV (updV (updV (updV (updV (updV (updV (updV (updV (updV (updV (updV (updV (updV (updV (updV (updV (updV (updV (updV (updV (updV (updV (updV (updV (updV (updV (updV (σ a0) 0 (.ref h8)) 1 (.ref h17)) 2 (.ref h26)) 3 (.ref h35)) 15 (.ref h44)) 16 (.ref h53)) 17 (.ref h61)) 18 (.ref h69)) 19 (.ref h77)) 20 (.ref h85)) 21 (.ref h94)) 22 (.ref h102)) 23 (.ref h110)) 24 (.ref h118)) 25 (.ref h126)) 26 (.ref h134)) 27 (.ref h143)) 28 (.ref h151)) 30 (.ref h160)) 31 (.ref h168)) 32 (.ref h176)) 33 (.ref h184)) 34 (.ref h192)) 35 (.ref h200)) 36 (.ref h208)) 37 (.ref h215)) 38 (.ref h222)) 43 (.ref h231)) 44 (.ref h238) := (funext fun j => p266.1.2 a0 10 0 j A238.1 (q_md9 (by decide) j)).trans F262
  refine q_retypeA (k1 := 100) tt238 ⟨by decide, by decide, by decide⟩ ?_
  obtain ⟨τR, etR⟩ : ∃ t : q_T, t = q_tu τ238 h8 (100, 549) := ⟨_, rfl⟩
  rw [← etR]
  have xR : ∀ (b : Nat) (x : Nat × Nat), b ≠ h8 → τ238 b = some x → τR b = some x := by rw [etR]; exact fun b x hb hx => (q_tu_ne hb).trans hx
  have TR : τR h8 = some (100, 549) := by rw [etR]; exact q_tu_new
  have SR : τR a0 = some (10, 0) := xR a0 _ (Ne.symm NE) A238.1
  have IR : q_I τR σ266 := by rw [etR]; exact q_I.retA p266.1.1 tt238 p266.2.2.1
  have FR : ∀ (b : Nat) (x : Nat × Nat), τ b = some x → τR b = some x := by
    intro b x hb
    have bh : b ≠ h8 := fun e => by rw [e, n8] at hb; cases hb
    have y8 := (x8 b x hb).1
    have y17 := (x17.1 b x y8).1
    have y26 := (x26.1 b x y17).1
    have y35 := (x35.1 b x y26).1
    have y44 := (x44.1 b x y35).1
    have y53 := (x53.1 b x y44).1
    have y61 := (x61.1 b x y53).1
    have y69 := (x69.1 b x y61).1
    have y77 := (x77.1 b x y69).1
    have y85 := (x85.1 b x y77).1
    have y94 := (x94.1 b x y85).1
    have y102 := (x102.1 b x y94).1
    have y110 := (x110.1 b x y102).1
    have y118 := (x118.1 b x y110).1
    have y126 := (x126.1 b x y118).1
    have y134 := (x134.1 b x y126).1
    have y143 := (x143.1 b x y134).1
    have y151 := (x151.1 b x y143).1
    have y160 := (x160.1 b x y151).1
    have y168 := (x168.1 b x y160).1
    have y176 := (x176.1 b x y168).1
    have y184 := (x184.1 b x y176).1
    have y192 := (x192.1 b x y184).1
    have y200 := (x200.1 b x y192).1
    have y208 := (x208.1 b x y200).1
    have y215 := (x215.1 b x y208).1
    have y222 := (x222.1 b x y215).1
    have y231 := (x231.1 b x y222).1
    have y238 := (x238.1 b x y231).1
    exact xR b x bh y238
  have FS : ∀ b : Nat, τ b = some (9, 1) → σ266 b = σ b := by
    intro b hb
    have ba : b ≠ a0 := q_neT hb tA0 (by decide)
    have u0 : σ b = σ b := rfl
    have bh : b ≠ h8 := fun e => by rw [e, n8] at hb; cases hb
    have u8 := (x8 b _ hb).2.trans u0
    have y8 := (x8 b _ hb).1
    have u10 := (x10 b ba).trans u8
    have u17 := (x17.1 b _ y8).2.trans u10
    have y17 := (x17.1 b _ y8).1
    have u19 := (x19 b ba).trans u17
    have u26 := (x26.1 b _ y17).2.trans u19
    have y26 := (x26.1 b _ y17).1
    have u28 := (x28 b ba).trans u26
    have u35 := (x35.1 b _ y26).2.trans u28
    have y35 := (x35.1 b _ y26).1
    have u37 := (x37 b ba).trans u35
    have u44 := (x44.1 b _ y35).2.trans u37
    have y44 := (x44.1 b _ y35).1
    have u46 := (x46 b ba).trans u44
    have u53 := (x53.1 b _ y44).2.trans u46
    have y53 := (x53.1 b _ y44).1
    have u55 := (x55 b ba).trans u53
    have u61 := (x61.1 b _ y53).2.trans u55
    have y61 := (x61.1 b _ y53).1
    have u63 := (x63 b ba).trans u61
    have u69 := (x69.1 b _ y61).2.trans u63
    have y69 := (x69.1 b _ y61).1
    have u71 := (x71 b ba).trans u69
    have u77 := (x77.1 b _ y69).2.trans u71
    have y77 := (x77.1 b _ y69).1
    have u79 := (x79 b ba).trans u77
    have u85 := (x85.1 b _ y77).2.trans u79
    have y85 := (x85.1 b _ y77).1
    have u87 := (x87 b ba).trans u85
    have u94 := (x94.1 b _ y85).2.trans u87
    have y94 := (x94.1 b _ y85).1
    have u96 := (x96 b ba).trans u94
    have u102 := (x102.1 b _ y94).2.trans u96
    have y102 := (x102.1 b _ y94).1
    have u104 := (x104 b ba).trans u102
    have u110 := (x110.1 b _ y102).2.trans u104
    have y110 := (x110.1 b _ y102).1
    have u112 := (x112 b ba).trans u110
    have u118 := (x118.1 b _ y110).2.trans u112
    have y118 := (x118.1 b _ y110).1
    have u120 := (x120 b ba).trans u118
    have u126 := (x126.1 b _ y118).2.trans u120
    have y126 := (x126.1 b _ y118).1
    have u128 := (x128 b ba).trans u126
    have u134 := (x134.1 b _ y126).2.trans u128
    have y134 := (x134.1 b _ y126).1
    have u136 := (x136 b ba).trans u134
    have u143 := (x143.1 b _ y134).2.trans u136
    have y143 := (x143.1 b _ y134).1
    have u145 := (x145 b ba).trans u143
    have u151 := (x151.1 b _ y143).2.trans u145
    have y151 := (x151.1 b _ y143).1
    have u153 := (x153 b ba).trans u151
    have u160 := (x160.1 b _ y151).2.trans u153
    have y160 := (x160.1 b _ y151).1
    have u162 := (x162 b ba).trans u160
    have u168 := (x168.1 b _ y160).2.trans u162
    have y168 := (x168.1 b _ y160).1
    have u170 := (x170 b ba).trans u168
    have u176 := (x176.1 b _ y168).2.trans u170
    have y176 := (x176.1 b _ y168).1
    have u178 := (x178 b ba).trans u176
    have u184 := (x184.1 b _ y176).2.trans u178
    have y184 := (x184.1 b _ y176).1
    have u186 := (x186 b ba).trans u184
    have u192 := (x192.1 b _ y184).2.trans u186
    have y192 := (x192.1 b _ y184).1
    have u194 := (x194 b ba).trans u192
    have u200 := (x200.1 b _ y192).2.trans u194
    have y200 := (x200.1 b _ y192).1
    have u202 := (x202 b ba).trans u200
    have u208 := (x208.1 b _ y200).2.trans u202
    have y208 := (x208.1 b _ y200).1
    have u210 := (x210 b ba).trans u208
    have u215 := (x215.1 b _ y208).2.trans u210
    have y215 := (x215.1 b _ y208).1
    have u217 := (x217 b ba).trans u215
    have u222 := (x222.1 b _ y215).2.trans u217
    have y222 := (x222.1 b _ y215).1
    have u224 := (x224 b ba).trans u222
    have u231 := (x231.1 b _ y222).2.trans u224
    have y231 := (x231.1 b _ y222).1
    have u233 := (x233 b ba).trans u231
    have u238 := (x238.1 b _ y231).2.trans u233
    have y238 := (x238.1 b _ y231).1
    have u240 := (x240 b ba).trans u238
    have u252 : σ252 b = σ b := by rw [es252, q_up_ne bh]; exact u240
    have u262 : σ262 b = σ b := by rw [es262, q_up_ne bh]; exact u252
    exact (funext fun j => p266.1.2 b 9 1 j y238 (q_md9 (by decide) j)).trans u262
  have FS6 : ∀ b : Nat, τ b = some (6, 1) → σ266 b = σ b := by
    intro b hb
    have ba : b ≠ a0 := q_neT hb tA0 (by decide)
    have u0 : σ b = σ b := rfl
    have bh : b ≠ h8 := fun e => by rw [e, n8] at hb; cases hb
    have u8 := (x8 b _ hb).2.trans u0
    have y8 := (x8 b _ hb).1
    have u10 := (x10 b ba).trans u8
    have u17 := (x17.1 b _ y8).2.trans u10
    have y17 := (x17.1 b _ y8).1
    have u19 := (x19 b ba).trans u17
    have u26 := (x26.1 b _ y17).2.trans u19
    have y26 := (x26.1 b _ y17).1
    have u28 := (x28 b ba).trans u26
    have u35 := (x35.1 b _ y26).2.trans u28
    have y35 := (x35.1 b _ y26).1
    have u37 := (x37 b ba).trans u35
    have u44 := (x44.1 b _ y35).2.trans u37
    have y44 := (x44.1 b _ y35).1
    have u46 := (x46 b ba).trans u44
    have u53 := (x53.1 b _ y44).2.trans u46
    have y53 := (x53.1 b _ y44).1
    have u55 := (x55 b ba).trans u53
    have u61 := (x61.1 b _ y53).2.trans u55
    have y61 := (x61.1 b _ y53).1
    have u63 := (x63 b ba).trans u61
    have u69 := (x69.1 b _ y61).2.trans u63
    have y69 := (x69.1 b _ y61).1
    have u71 := (x71 b ba).trans u69
    have u77 := (x77.1 b _ y69).2.trans u71
    have y77 := (x77.1 b _ y69).1
    have u79 := (x79 b ba).trans u77
    have u85 := (x85.1 b _ y77).2.trans u79
    have y85 := (x85.1 b _ y77).1
    have u87 := (x87 b ba).trans u85
    have u94 := (x94.1 b _ y85).2.trans u87
    have y94 := (x94.1 b _ y85).1
    have u96 := (x96 b ba).trans u94
    have u102 := (x102.1 b _ y94).2.trans u96
    have y102 := (x102.1 b _ y94).1
    have u104 := (x104 b ba).trans u102
    have u110 := (x110.1 b _ y102).2.trans u104
    have y110 := (x110.1 b _ y102).1
    have u112 := (x112 b ba).trans u110
    have u118 := (x118.1 b _ y110).2.trans u112
    have y118 := (x118.1 b _ y110).1
    have u120 := (x120 b ba).trans u118
    have u126 := (x126.1 b _ y118).2.trans u120
    have y126 := (x126.1 b _ y118).1
    have u128 := (x128 b ba).trans u126
    have u134 := (x134.1 b _ y126).2.trans u128
    have y134 := (x134.1 b _ y126).1
    have u136 := (x136 b ba).trans u134
    have u143 := (x143.1 b _ y134).2.trans u136
    have y143 := (x143.1 b _ y134).1
    have u145 := (x145 b ba).trans u143
    have u151 := (x151.1 b _ y143).2.trans u145
    have y151 := (x151.1 b _ y143).1
    have u153 := (x153 b ba).trans u151
    have u160 := (x160.1 b _ y151).2.trans u153
    have y160 := (x160.1 b _ y151).1
    have u162 := (x162 b ba).trans u160
    have u168 := (x168.1 b _ y160).2.trans u162
    have y168 := (x168.1 b _ y160).1
    have u170 := (x170 b ba).trans u168
    have u176 := (x176.1 b _ y168).2.trans u170
    have y176 := (x176.1 b _ y168).1
    have u178 := (x178 b ba).trans u176
    have u184 := (x184.1 b _ y176).2.trans u178
    have y184 := (x184.1 b _ y176).1
    have u186 := (x186 b ba).trans u184
    have u192 := (x192.1 b _ y184).2.trans u186
    have y192 := (x192.1 b _ y184).1
    have u194 := (x194 b ba).trans u192
    have u200 := (x200.1 b _ y192).2.trans u194
    have y200 := (x200.1 b _ y192).1
    have u202 := (x202 b ba).trans u200
    have u208 := (x208.1 b _ y200).2.trans u202
    have y208 := (x208.1 b _ y200).1
    have u210 := (x210 b ba).trans u208
    have u215 := (x215.1 b _ y208).2.trans u210
    have y215 := (x215.1 b _ y208).1
    have u217 := (x217 b ba).trans u215
    have u222 := (x222.1 b _ y215).2.trans u217
    have y222 := (x222.1 b _ y215).1
    have u224 := (x224 b ba).trans u222
    have u231 := (x231.1 b _ y222).2.trans u224
    have y231 := (x231.1 b _ y222).1
    have u233 := (x233 b ba).trans u231
    have u238 := (x238.1 b _ y231).2.trans u233
    have y238 := (x238.1 b _ y231).1
    have u240 := (x240 b ba).trans u238
    have u252 : σ252 b = σ b := by rw [es252, q_up_ne bh]; exact u240
    have u262 : σ262 b = σ b := by rw [es262, q_up_ne bh]; exact u252
    exact (funext fun j => p266.1.2 b 6 1 j y238 (q_md9 (by decide) j)).trans u262
  have FS118 : ∀ b : Nat, τ b = some (118, 64) → σ266 b = σ b := by
    intro b hb
    have ba : b ≠ a0 := q_neT hb tA0 (by decide)
    have u0 : σ b = σ b := rfl
    have bh : b ≠ h8 := fun e => by rw [e, n8] at hb; cases hb
    have u8 := (x8 b _ hb).2.trans u0
    have y8 := (x8 b _ hb).1
    have u10 := (x10 b ba).trans u8
    have u17 := (x17.1 b _ y8).2.trans u10
    have y17 := (x17.1 b _ y8).1
    have u19 := (x19 b ba).trans u17
    have u26 := (x26.1 b _ y17).2.trans u19
    have y26 := (x26.1 b _ y17).1
    have u28 := (x28 b ba).trans u26
    have u35 := (x35.1 b _ y26).2.trans u28
    have y35 := (x35.1 b _ y26).1
    have u37 := (x37 b ba).trans u35
    have u44 := (x44.1 b _ y35).2.trans u37
    have y44 := (x44.1 b _ y35).1
    have u46 := (x46 b ba).trans u44
    have u53 := (x53.1 b _ y44).2.trans u46
    have y53 := (x53.1 b _ y44).1
    have u55 := (x55 b ba).trans u53
    have u61 := (x61.1 b _ y53).2.trans u55
    have y61 := (x61.1 b _ y53).1
    have u63 := (x63 b ba).trans u61
    have u69 := (x69.1 b _ y61).2.trans u63
    have y69 := (x69.1 b _ y61).1
    have u71 := (x71 b ba).trans u69
    have u77 := (x77.1 b _ y69).2.trans u71
    have y77 := (x77.1 b _ y69).1
    have u79 := (x79 b ba).trans u77
    have u85 := (x85.1 b _ y77).2.trans u79
    have y85 := (x85.1 b _ y77).1
    have u87 := (x87 b ba).trans u85
    have u94 := (x94.1 b _ y85).2.trans u87
    have y94 := (x94.1 b _ y85).1
    have u96 := (x96 b ba).trans u94
    have u102 := (x102.1 b _ y94).2.trans u96
    have y102 := (x102.1 b _ y94).1
    have u104 := (x104 b ba).trans u102
    have u110 := (x110.1 b _ y102).2.trans u104
    have y110 := (x110.1 b _ y102).1
    have u112 := (x112 b ba).trans u110
    have u118 := (x118.1 b _ y110).2.trans u112
    have y118 := (x118.1 b _ y110).1
    have u120 := (x120 b ba).trans u118
    have u126 := (x126.1 b _ y118).2.trans u120
    have y126 := (x126.1 b _ y118).1
    have u128 := (x128 b ba).trans u126
    have u134 := (x134.1 b _ y126).2.trans u128
    have y134 := (x134.1 b _ y126).1
    have u136 := (x136 b ba).trans u134
    have u143 := (x143.1 b _ y134).2.trans u136
    have y143 := (x143.1 b _ y134).1
    have u145 := (x145 b ba).trans u143
    have u151 := (x151.1 b _ y143).2.trans u145
    have y151 := (x151.1 b _ y143).1
    have u153 := (x153 b ba).trans u151
    have u160 := (x160.1 b _ y151).2.trans u153
    have y160 := (x160.1 b _ y151).1
    have u162 := (x162 b ba).trans u160
    have u168 := (x168.1 b _ y160).2.trans u162
    have y168 := (x168.1 b _ y160).1
    have u170 := (x170 b ba).trans u168
    have u176 := (x176.1 b _ y168).2.trans u170
    have y176 := (x176.1 b _ y168).1
    have u178 := (x178 b ba).trans u176
    have u184 := (x184.1 b _ y176).2.trans u178
    have y184 := (x184.1 b _ y176).1
    have u186 := (x186 b ba).trans u184
    have u192 := (x192.1 b _ y184).2.trans u186
    have y192 := (x192.1 b _ y184).1
    have u194 := (x194 b ba).trans u192
    have u200 := (x200.1 b _ y192).2.trans u194
    have y200 := (x200.1 b _ y192).1
    have u202 := (x202 b ba).trans u200
    have u208 := (x208.1 b _ y200).2.trans u202
    have y208 := (x208.1 b _ y200).1
    have u210 := (x210 b ba).trans u208
    have u215 := (x215.1 b _ y208).2.trans u210
    have y215 := (x215.1 b _ y208).1
    have u217 := (x217 b ba).trans u215
    have u222 := (x222.1 b _ y215).2.trans u217
    have y222 := (x222.1 b _ y215).1
    have u224 := (x224 b ba).trans u222
    have u231 := (x231.1 b _ y222).2.trans u224
    have y231 := (x231.1 b _ y222).1
    have u233 := (x233 b ba).trans u231
    have u238 := (x238.1 b _ y231).2.trans u233
    have y238 := (x238.1 b _ y231).1
    have u240 := (x240 b ba).trans u238
    have u252 : σ252 b = σ b := by rw [es252, q_up_ne bh]; exact u240
    have u262 : σ262 b = σ b := by rw [es262, q_up_ne bh]; exact u252
    exact (funext fun j => p266.1.2.arr y238 (by decide) rfl).trans u262
  have FS4 : ∀ b : Nat, τ b = some (4, 1) → σ266 b = σ b := by
    intro b hb
    have ba : b ≠ a0 := q_neT hb tA0 (by decide)
    have u0 : σ b = σ b := rfl
    have bh : b ≠ h8 := fun e => by rw [e, n8] at hb; cases hb
    have u8 := (x8 b _ hb).2.trans u0
    have y8 := (x8 b _ hb).1
    have u10 := (x10 b ba).trans u8
    have u17 := (x17.1 b _ y8).2.trans u10
    have y17 := (x17.1 b _ y8).1
    have u19 := (x19 b ba).trans u17
    have u26 := (x26.1 b _ y17).2.trans u19
    have y26 := (x26.1 b _ y17).1
    have u28 := (x28 b ba).trans u26
    have u35 := (x35.1 b _ y26).2.trans u28
    have y35 := (x35.1 b _ y26).1
    have u37 := (x37 b ba).trans u35
    have u44 := (x44.1 b _ y35).2.trans u37
    have y44 := (x44.1 b _ y35).1
    have u46 := (x46 b ba).trans u44
    have u53 := (x53.1 b _ y44).2.trans u46
    have y53 := (x53.1 b _ y44).1
    have u55 := (x55 b ba).trans u53
    have u61 := (x61.1 b _ y53).2.trans u55
    have y61 := (x61.1 b _ y53).1
    have u63 := (x63 b ba).trans u61
    have u69 := (x69.1 b _ y61).2.trans u63
    have y69 := (x69.1 b _ y61).1
    have u71 := (x71 b ba).trans u69
    have u77 := (x77.1 b _ y69).2.trans u71
    have y77 := (x77.1 b _ y69).1
    have u79 := (x79 b ba).trans u77
    have u85 := (x85.1 b _ y77).2.trans u79
    have y85 := (x85.1 b _ y77).1
    have u87 := (x87 b ba).trans u85
    have u94 := (x94.1 b _ y85).2.trans u87
    have y94 := (x94.1 b _ y85).1
    have u96 := (x96 b ba).trans u94
    have u102 := (x102.1 b _ y94).2.trans u96
    have y102 := (x102.1 b _ y94).1
    have u104 := (x104 b ba).trans u102
    have u110 := (x110.1 b _ y102).2.trans u104
    have y110 := (x110.1 b _ y102).1
    have u112 := (x112 b ba).trans u110
    have u118 := (x118.1 b _ y110).2.trans u112
    have y118 := (x118.1 b _ y110).1
    have u120 := (x120 b ba).trans u118
    have u126 := (x126.1 b _ y118).2.trans u120
    have y126 := (x126.1 b _ y118).1
    have u128 := (x128 b ba).trans u126
    have u134 := (x134.1 b _ y126).2.trans u128
    have y134 := (x134.1 b _ y126).1
    have u136 := (x136 b ba).trans u134
    have u143 := (x143.1 b _ y134).2.trans u136
    have y143 := (x143.1 b _ y134).1
    have u145 := (x145 b ba).trans u143
    have u151 := (x151.1 b _ y143).2.trans u145
    have y151 := (x151.1 b _ y143).1
    have u153 := (x153 b ba).trans u151
    have u160 := (x160.1 b _ y151).2.trans u153
    have y160 := (x160.1 b _ y151).1
    have u162 := (x162 b ba).trans u160
    have u168 := (x168.1 b _ y160).2.trans u162
    have y168 := (x168.1 b _ y160).1
    have u170 := (x170 b ba).trans u168
    have u176 := (x176.1 b _ y168).2.trans u170
    have y176 := (x176.1 b _ y168).1
    have u178 := (x178 b ba).trans u176
    have u184 := (x184.1 b _ y176).2.trans u178
    have y184 := (x184.1 b _ y176).1
    have u186 := (x186 b ba).trans u184
    have u192 := (x192.1 b _ y184).2.trans u186
    have y192 := (x192.1 b _ y184).1
    have u194 := (x194 b ba).trans u192
    have u200 := (x200.1 b _ y192).2.trans u194
    have y200 := (x200.1 b _ y192).1
    have u202 := (x202 b ba).trans u200
    have u208 := (x208.1 b _ y200).2.trans u202
    have y208 := (x208.1 b _ y200).1
    have u210 := (x210 b ba).trans u208
    have u215 := (x215.1 b _ y208).2.trans u210
    have y215 := (x215.1 b _ y208).1
    have u217 := (x217 b ba).trans u215
    have u222 := (x222.1 b _ y215).2.trans u217
    have y222 := (x222.1 b _ y215).1
    have u224 := (x224 b ba).trans u222
    have u231 := (x231.1 b _ y222).2.trans u224
    have y231 := (x231.1 b _ y222).1
    have u233 := (x233 b ba).trans u231
    have u238 := (x238.1 b _ y231).2.trans u233
    have y238 := (x238.1 b _ y231).1
    have u240 := (x240 b ba).trans u238
    have u252 : σ252 b = σ b := by rw [es252, q_up_ne bh]; exact u240
    have u262 : σ262 b = σ b := by rw [es262, q_up_ne bh]; exact u252
    exact (funext fun j => p266.1.2 b 4 1 j y238 (q_md9 (by decide) j)).trans u262
  have FS3 : ∀ b : Nat, τ b = some (3, 1) → σ266 b = σ b := by
    intro b hb
    have ba : b ≠ a0 := q_neT hb tA0 (by decide)
    have u0 : σ b = σ b := rfl
    have bh : b ≠ h8 := fun e => by rw [e, n8] at hb; cases hb
    have u8 := (x8 b _ hb).2.trans u0
    have y8 := (x8 b _ hb).1
    have u10 := (x10 b ba).trans u8
    have u17 := (x17.1 b _ y8).2.trans u10
    have y17 := (x17.1 b _ y8).1
    have u19 := (x19 b ba).trans u17
    have u26 := (x26.1 b _ y17).2.trans u19
    have y26 := (x26.1 b _ y17).1
    have u28 := (x28 b ba).trans u26
    have u35 := (x35.1 b _ y26).2.trans u28
    have y35 := (x35.1 b _ y26).1
    have u37 := (x37 b ba).trans u35
    have u44 := (x44.1 b _ y35).2.trans u37
    have y44 := (x44.1 b _ y35).1
    have u46 := (x46 b ba).trans u44
    have u53 := (x53.1 b _ y44).2.trans u46
    have y53 := (x53.1 b _ y44).1
    have u55 := (x55 b ba).trans u53
    have u61 := (x61.1 b _ y53).2.trans u55
    have y61 := (x61.1 b _ y53).1
    have u63 := (x63 b ba).trans u61
    have u69 := (x69.1 b _ y61).2.trans u63
    have y69 := (x69.1 b _ y61).1
    have u71 := (x71 b ba).trans u69
    have u77 := (x77.1 b _ y69).2.trans u71
    have y77 := (x77.1 b _ y69).1
    have u79 := (x79 b ba).trans u77
    have u85 := (x85.1 b _ y77).2.trans u79
    have y85 := (x85.1 b _ y77).1
    have u87 := (x87 b ba).trans u85
    have u94 := (x94.1 b _ y85).2.trans u87
    have y94 := (x94.1 b _ y85).1
    have u96 := (x96 b ba).trans u94
    have u102 := (x102.1 b _ y94).2.trans u96
    have y102 := (x102.1 b _ y94).1
    have u104 := (x104 b ba).trans u102
    have u110 := (x110.1 b _ y102).2.trans u104
    have y110 := (x110.1 b _ y102).1
    have u112 := (x112 b ba).trans u110
    have u118 := (x118.1 b _ y110).2.trans u112
    have y118 := (x118.1 b _ y110).1
    have u120 := (x120 b ba).trans u118
    have u126 := (x126.1 b _ y118).2.trans u120
    have y126 := (x126.1 b _ y118).1
    have u128 := (x128 b ba).trans u126
    have u134 := (x134.1 b _ y126).2.trans u128
    have y134 := (x134.1 b _ y126).1
    have u136 := (x136 b ba).trans u134
    have u143 := (x143.1 b _ y134).2.trans u136
    have y143 := (x143.1 b _ y134).1
    have u145 := (x145 b ba).trans u143
    have u151 := (x151.1 b _ y143).2.trans u145
    have y151 := (x151.1 b _ y143).1
    have u153 := (x153 b ba).trans u151
    have u160 := (x160.1 b _ y151).2.trans u153
    have y160 := (x160.1 b _ y151).1
    have u162 := (x162 b ba).trans u160
    have u168 := (x168.1 b _ y160).2.trans u162
    have y168 := (x168.1 b _ y160).1
    have u170 := (x170 b ba).trans u168
    have u176 := (x176.1 b _ y168).2.trans u170
    have y176 := (x176.1 b _ y168).1
    have u178 := (x178 b ba).trans u176
    have u184 := (x184.1 b _ y176).2.trans u178
    have y184 := (x184.1 b _ y176).1
    have u186 := (x186 b ba).trans u184
    have u192 := (x192.1 b _ y184).2.trans u186
    have y192 := (x192.1 b _ y184).1
    have u194 := (x194 b ba).trans u192
    have u200 := (x200.1 b _ y192).2.trans u194
    have y200 := (x200.1 b _ y192).1
    have u202 := (x202 b ba).trans u200
    have u208 := (x208.1 b _ y200).2.trans u202
    have y208 := (x208.1 b _ y200).1
    have u210 := (x210 b ba).trans u208
    have u215 := (x215.1 b _ y208).2.trans u210
    have y215 := (x215.1 b _ y208).1
    have u217 := (x217 b ba).trans u215
    have u222 := (x222.1 b _ y215).2.trans u217
    have y222 := (x222.1 b _ y215).1
    have u224 := (x224 b ba).trans u222
    have u231 := (x231.1 b _ y222).2.trans u224
    have y231 := (x231.1 b _ y222).1
    have u233 := (x233 b ba).trans u231
    have u238 := (x238.1 b _ y231).2.trans u233
    have y238 := (x238.1 b _ y231).1
    have u240 := (x240 b ba).trans u238
    have u252 : σ252 b = σ b := by rw [es252, q_up_ne bh]; exact u240
    have u262 : σ262 b = σ b := by rw [es262, q_up_ne bh]; exact u252
    exact (funext fun j => p266.1.2 b 3 1 j y238 (q_md9 (by decide) j)).trans u262
  have EX : ∀ (b : Nat) (x : Nat × Nat), b ≠ a0 → τ b = some x → ∀ i : Nat, fx_N σ266 b i = fx_N σ b i := by
    intro b x ba hb i
    have u0 : σ b = σ b := rfl
    have bh : b ≠ h8 := fun e => by rw [e, n8] at hb; cases hb
    have u8 := (x8 b _ hb).2.trans u0
    have y8 := (x8 b _ hb).1
    have u10 := (x10 b ba).trans u8
    have u17 := (x17.1 b _ y8).2.trans u10
    have y17 := (x17.1 b _ y8).1
    have u19 := (x19 b ba).trans u17
    have u26 := (x26.1 b _ y17).2.trans u19
    have y26 := (x26.1 b _ y17).1
    have u28 := (x28 b ba).trans u26
    have u35 := (x35.1 b _ y26).2.trans u28
    have y35 := (x35.1 b _ y26).1
    have u37 := (x37 b ba).trans u35
    have u44 := (x44.1 b _ y35).2.trans u37
    have y44 := (x44.1 b _ y35).1
    have u46 := (x46 b ba).trans u44
    have u53 := (x53.1 b _ y44).2.trans u46
    have y53 := (x53.1 b _ y44).1
    have u55 := (x55 b ba).trans u53
    have u61 := (x61.1 b _ y53).2.trans u55
    have y61 := (x61.1 b _ y53).1
    have u63 := (x63 b ba).trans u61
    have u69 := (x69.1 b _ y61).2.trans u63
    have y69 := (x69.1 b _ y61).1
    have u71 := (x71 b ba).trans u69
    have u77 := (x77.1 b _ y69).2.trans u71
    have y77 := (x77.1 b _ y69).1
    have u79 := (x79 b ba).trans u77
    have u85 := (x85.1 b _ y77).2.trans u79
    have y85 := (x85.1 b _ y77).1
    have u87 := (x87 b ba).trans u85
    have u94 := (x94.1 b _ y85).2.trans u87
    have y94 := (x94.1 b _ y85).1
    have u96 := (x96 b ba).trans u94
    have u102 := (x102.1 b _ y94).2.trans u96
    have y102 := (x102.1 b _ y94).1
    have u104 := (x104 b ba).trans u102
    have u110 := (x110.1 b _ y102).2.trans u104
    have y110 := (x110.1 b _ y102).1
    have u112 := (x112 b ba).trans u110
    have u118 := (x118.1 b _ y110).2.trans u112
    have y118 := (x118.1 b _ y110).1
    have u120 := (x120 b ba).trans u118
    have u126 := (x126.1 b _ y118).2.trans u120
    have y126 := (x126.1 b _ y118).1
    have u128 := (x128 b ba).trans u126
    have u134 := (x134.1 b _ y126).2.trans u128
    have y134 := (x134.1 b _ y126).1
    have u136 := (x136 b ba).trans u134
    have u143 := (x143.1 b _ y134).2.trans u136
    have y143 := (x143.1 b _ y134).1
    have u145 := (x145 b ba).trans u143
    have u151 := (x151.1 b _ y143).2.trans u145
    have y151 := (x151.1 b _ y143).1
    have u153 := (x153 b ba).trans u151
    have u160 := (x160.1 b _ y151).2.trans u153
    have y160 := (x160.1 b _ y151).1
    have u162 := (x162 b ba).trans u160
    have u168 := (x168.1 b _ y160).2.trans u162
    have y168 := (x168.1 b _ y160).1
    have u170 := (x170 b ba).trans u168
    have u176 := (x176.1 b _ y168).2.trans u170
    have y176 := (x176.1 b _ y168).1
    have u178 := (x178 b ba).trans u176
    have u184 := (x184.1 b _ y176).2.trans u178
    have y184 := (x184.1 b _ y176).1
    have u186 := (x186 b ba).trans u184
    have u192 := (x192.1 b _ y184).2.trans u186
    have y192 := (x192.1 b _ y184).1
    have u194 := (x194 b ba).trans u192
    have u200 := (x200.1 b _ y192).2.trans u194
    have y200 := (x200.1 b _ y192).1
    have u202 := (x202 b ba).trans u200
    have u208 := (x208.1 b _ y200).2.trans u202
    have y208 := (x208.1 b _ y200).1
    have u210 := (x210 b ba).trans u208
    have u215 := (x215.1 b _ y208).2.trans u210
    have y215 := (x215.1 b _ y208).1
    have u217 := (x217 b ba).trans u215
    have u222 := (x222.1 b _ y215).2.trans u217
    have y222 := (x222.1 b _ y215).1
    have u224 := (x224 b ba).trans u222
    have u231 := (x231.1 b _ y222).2.trans u224
    have y231 := (x231.1 b _ y222).1
    have u233 := (x233 b ba).trans u231
    have u238 := (x238.1 b _ y231).2.trans u233
    have y238 := (x238.1 b _ y231).1
    have u240 := (x240 b ba).trans u238
    have u252 : σ252 b = σ b := by rw [es252, q_up_ne bh]; exact u240
    have u262 : σ262 b = σ b := by rw [es262, q_up_ne bh]; exact u252
    exact (ZF b bh i).trans (congrArg fx_num (congrFun u262 i))
  have HF : ∀ j, j < q_nf 10 → q_v (q_tu τR a0 (10, 1)) (q_f 10 j) (σ266 a0 j) := by
    rw [F266]
    intro j hj
    rcases j with _ | j
    · show q_v _ (q_f 10 0) (.ref h8); exact q_vr (k := 100) (n := 549) ff_10_0 ((q_tu_ne (q_neT TR SR (by decide))).trans TR) (by decide)
    rcases j with _ | j
    · show q_v _ (q_f 10 1) (.ref h17); exact q_vr (k := 101) (n := 549) ff_10_1 ((q_tu_ne (q_neT (xR h17 _ (q_neT (x238.1 h17 _ (x231.1 h17 _ (x222.1 h17 _ (x215.1 h17 _ (x208.1 h17 _ (x200.1 h17 _ (x192.1 h17 _ (x184.1 h17 _ (x176.1 h17 _ (x168.1 h17 _ (x160.1 h17 _ (x151.1 h17 _ (x143.1 h17 _ (x134.1 h17 _ (x126.1 h17 _ (x118.1 h17 _ (x110.1 h17 _ (x102.1 h17 _ (x94.1 h17 _ (x85.1 h17 _ (x77.1 h17 _ (x69.1 h17 _ (x61.1 h17 _ (x53.1 h17 _ (x44.1 h17 _ (x35.1 h17 _ (x26.1 h17 _ T17).1).1).1).1).1).1).1).1).1).1).1).1).1).1).1).1).1).1).1).1).1).1).1).1).1).1).1 tt238 (by decide)) (x238.1 h17 _ (x231.1 h17 _ (x222.1 h17 _ (x215.1 h17 _ (x208.1 h17 _ (x200.1 h17 _ (x192.1 h17 _ (x184.1 h17 _ (x176.1 h17 _ (x168.1 h17 _ (x160.1 h17 _ (x151.1 h17 _ (x143.1 h17 _ (x134.1 h17 _ (x126.1 h17 _ (x118.1 h17 _ (x110.1 h17 _ (x102.1 h17 _ (x94.1 h17 _ (x85.1 h17 _ (x77.1 h17 _ (x69.1 h17 _ (x61.1 h17 _ (x53.1 h17 _ (x44.1 h17 _ (x35.1 h17 _ (x26.1 h17 _ T17).1).1).1).1).1).1).1).1).1).1).1).1).1).1).1).1).1).1).1).1).1).1).1).1).1).1).1) SR (by decide))).trans (xR h17 _ (q_neT (x238.1 h17 _ (x231.1 h17 _ (x222.1 h17 _ (x215.1 h17 _ (x208.1 h17 _ (x200.1 h17 _ (x192.1 h17 _ (x184.1 h17 _ (x176.1 h17 _ (x168.1 h17 _ (x160.1 h17 _ (x151.1 h17 _ (x143.1 h17 _ (x134.1 h17 _ (x126.1 h17 _ (x118.1 h17 _ (x110.1 h17 _ (x102.1 h17 _ (x94.1 h17 _ (x85.1 h17 _ (x77.1 h17 _ (x69.1 h17 _ (x61.1 h17 _ (x53.1 h17 _ (x44.1 h17 _ (x35.1 h17 _ (x26.1 h17 _ T17).1).1).1).1).1).1).1).1).1).1).1).1).1).1).1).1).1).1).1).1).1).1).1).1).1).1).1 tt238 (by decide)) (x238.1 h17 _ (x231.1 h17 _ (x222.1 h17 _ (x215.1 h17 _ (x208.1 h17 _ (x200.1 h17 _ (x192.1 h17 _ (x184.1 h17 _ (x176.1 h17 _ (x168.1 h17 _ (x160.1 h17 _ (x151.1 h17 _ (x143.1 h17 _ (x134.1 h17 _ (x126.1 h17 _ (x118.1 h17 _ (x110.1 h17 _ (x102.1 h17 _ (x94.1 h17 _ (x85.1 h17 _ (x77.1 h17 _ (x69.1 h17 _ (x61.1 h17 _ (x53.1 h17 _ (x44.1 h17 _ (x35.1 h17 _ (x26.1 h17 _ T17).1).1).1).1).1).1).1).1).1).1).1).1).1).1).1).1).1).1).1).1).1).1).1).1).1).1).1)) (by decide)
    rcases j with _ | j
    · show q_v _ (q_f 10 2) (.ref h26); exact q_vr (k := 102) (n := 549) ff_10_2 ((q_tu_ne (q_neT (xR h26 _ (q_neT (x238.1 h26 _ (x231.1 h26 _ (x222.1 h26 _ (x215.1 h26 _ (x208.1 h26 _ (x200.1 h26 _ (x192.1 h26 _ (x184.1 h26 _ (x176.1 h26 _ (x168.1 h26 _ (x160.1 h26 _ (x151.1 h26 _ (x143.1 h26 _ (x134.1 h26 _ (x126.1 h26 _ (x118.1 h26 _ (x110.1 h26 _ (x102.1 h26 _ (x94.1 h26 _ (x85.1 h26 _ (x77.1 h26 _ (x69.1 h26 _ (x61.1 h26 _ (x53.1 h26 _ (x44.1 h26 _ (x35.1 h26 _ T26).1).1).1).1).1).1).1).1).1).1).1).1).1).1).1).1).1).1).1).1).1).1).1).1).1).1 tt238 (by decide)) (x238.1 h26 _ (x231.1 h26 _ (x222.1 h26 _ (x215.1 h26 _ (x208.1 h26 _ (x200.1 h26 _ (x192.1 h26 _ (x184.1 h26 _ (x176.1 h26 _ (x168.1 h26 _ (x160.1 h26 _ (x151.1 h26 _ (x143.1 h26 _ (x134.1 h26 _ (x126.1 h26 _ (x118.1 h26 _ (x110.1 h26 _ (x102.1 h26 _ (x94.1 h26 _ (x85.1 h26 _ (x77.1 h26 _ (x69.1 h26 _ (x61.1 h26 _ (x53.1 h26 _ (x44.1 h26 _ (x35.1 h26 _ T26).1).1).1).1).1).1).1).1).1).1).1).1).1).1).1).1).1).1).1).1).1).1).1).1).1).1) SR (by decide))).trans (xR h26 _ (q_neT (x238.1 h26 _ (x231.1 h26 _ (x222.1 h26 _ (x215.1 h26 _ (x208.1 h26 _ (x200.1 h26 _ (x192.1 h26 _ (x184.1 h26 _ (x176.1 h26 _ (x168.1 h26 _ (x160.1 h26 _ (x151.1 h26 _ (x143.1 h26 _ (x134.1 h26 _ (x126.1 h26 _ (x118.1 h26 _ (x110.1 h26 _ (x102.1 h26 _ (x94.1 h26 _ (x85.1 h26 _ (x77.1 h26 _ (x69.1 h26 _ (x61.1 h26 _ (x53.1 h26 _ (x44.1 h26 _ (x35.1 h26 _ T26).1).1).1).1).1).1).1).1).1).1).1).1).1).1).1).1).1).1).1).1).1).1).1).1).1).1 tt238 (by decide)) (x238.1 h26 _ (x231.1 h26 _ (x222.1 h26 _ (x215.1 h26 _ (x208.1 h26 _ (x200.1 h26 _ (x192.1 h26 _ (x184.1 h26 _ (x176.1 h26 _ (x168.1 h26 _ (x160.1 h26 _ (x151.1 h26 _ (x143.1 h26 _ (x134.1 h26 _ (x126.1 h26 _ (x118.1 h26 _ (x110.1 h26 _ (x102.1 h26 _ (x94.1 h26 _ (x85.1 h26 _ (x77.1 h26 _ (x69.1 h26 _ (x61.1 h26 _ (x53.1 h26 _ (x44.1 h26 _ (x35.1 h26 _ T26).1).1).1).1).1).1).1).1).1).1).1).1).1).1).1).1).1).1).1).1).1).1).1).1).1).1)) (by decide)
    rcases j with _ | j
    · show q_v _ (q_f 10 3) (.ref h35); exact q_vr (k := 310) (n := 260) ff_10_3 ((q_tu_ne (q_neT (xR h35 _ (q_neT (x238.1 h35 _ (x231.1 h35 _ (x222.1 h35 _ (x215.1 h35 _ (x208.1 h35 _ (x200.1 h35 _ (x192.1 h35 _ (x184.1 h35 _ (x176.1 h35 _ (x168.1 h35 _ (x160.1 h35 _ (x151.1 h35 _ (x143.1 h35 _ (x134.1 h35 _ (x126.1 h35 _ (x118.1 h35 _ (x110.1 h35 _ (x102.1 h35 _ (x94.1 h35 _ (x85.1 h35 _ (x77.1 h35 _ (x69.1 h35 _ (x61.1 h35 _ (x53.1 h35 _ (x44.1 h35 _ T35).1).1).1).1).1).1).1).1).1).1).1).1).1).1).1).1).1).1).1).1).1).1).1).1).1 tt238 (by decide)) (x238.1 h35 _ (x231.1 h35 _ (x222.1 h35 _ (x215.1 h35 _ (x208.1 h35 _ (x200.1 h35 _ (x192.1 h35 _ (x184.1 h35 _ (x176.1 h35 _ (x168.1 h35 _ (x160.1 h35 _ (x151.1 h35 _ (x143.1 h35 _ (x134.1 h35 _ (x126.1 h35 _ (x118.1 h35 _ (x110.1 h35 _ (x102.1 h35 _ (x94.1 h35 _ (x85.1 h35 _ (x77.1 h35 _ (x69.1 h35 _ (x61.1 h35 _ (x53.1 h35 _ (x44.1 h35 _ T35).1).1).1).1).1).1).1).1).1).1).1).1).1).1).1).1).1).1).1).1).1).1).1).1).1) SR (by decide))).trans (xR h35 _ (q_neT (x238.1 h35 _ (x231.1 h35 _ (x222.1 h35 _ (x215.1 h35 _ (x208.1 h35 _ (x200.1 h35 _ (x192.1 h35 _ (x184.1 h35 _ (x176.1 h35 _ (x168.1 h35 _ (x160.1 h35 _ (x151.1 h35 _ (x143.1 h35 _ (x134.1 h35 _ (x126.1 h35 _ (x118.1 h35 _ (x110.1 h35 _ (x102.1 h35 _ (x94.1 h35 _ (x85.1 h35 _ (x77.1 h35 _ (x69.1 h35 _ (x61.1 h35 _ (x53.1 h35 _ (x44.1 h35 _ T35).1).1).1).1).1).1).1).1).1).1).1).1).1).1).1).1).1).1).1).1).1).1).1).1).1 tt238 (by decide)) (x238.1 h35 _ (x231.1 h35 _ (x222.1 h35 _ (x215.1 h35 _ (x208.1 h35 _ (x200.1 h35 _ (x192.1 h35 _ (x184.1 h35 _ (x176.1 h35 _ (x168.1 h35 _ (x160.1 h35 _ (x151.1 h35 _ (x143.1 h35 _ (x134.1 h35 _ (x126.1 h35 _ (x118.1 h35 _ (x110.1 h35 _ (x102.1 h35 _ (x94.1 h35 _ (x85.1 h35 _ (x77.1 h35 _ (x69.1 h35 _ (x61.1 h35 _ (x53.1 h35 _ (x44.1 h35 _ T35).1).1).1).1).1).1).1).1).1).1).1).1).1).1).1).1).1).1).1).1).1).1).1).1).1)) (by decide)
    rcases j with _ | j
    · show q_v _ (q_f 10 4) (σ a0 4); rw [h0 4 (by decide)]; exact (show q_v _ _ (.int 0) from q_vi ff_10_4 rl_0 (by decide))
    rcases j with _ | j
    · show q_v _ (q_f 10 5) (σ a0 5); rw [h0 5 (by decide)]; exact (show q_v _ _ (.int 0) from q_vi ff_10_5 rl_0 (by decide))
    rcases j with _ | j
    · show q_v _ (q_f 10 6) (σ a0 6); rw [h0 6 (by decide)]; exact (show q_v _ _ (.int 0) from q_vi ff_10_6 rl_0 (by decide))
    rcases j with _ | j
    · show q_v _ (q_f 10 7) (σ a0 7); rw [h0 7 (by decide)]; exact (show q_v _ _ (.int 0) from q_vi ff_10_7 rl_0 (by decide))
    rcases j with _ | j
    · show q_v _ (q_f 10 8) (σ a0 8); rw [h0 8 (by decide)]; exact (show q_v _ _ (.int 0) from q_vi ff_10_8 rl_0 (by decide))
    rcases j with _ | j
    · show q_v _ (q_f 10 9) (σ a0 9); rw [h0 9 (by decide)]; exact (show q_v _ _ (.int 0) from q_vi ff_10_9 rl_0 (by decide))
    rcases j with _ | j
    · show q_v _ (q_f 10 10) (σ a0 10); rw [h0 10 (by decide)]; exact (show q_v _ _ (.int 0) from q_vi ff_10_10 rl_0 (by decide))
    rcases j with _ | j
    · show q_v _ (q_f 10 11) (σ a0 11); rw [h0 11 (by decide)]; exact (show q_v _ _ (.int 0) from q_vi ff_10_11 rl_0 (by decide))
    rcases j with _ | j
    · show q_v _ (q_f 10 12) (σ a0 12); rw [h0 12 (by decide)]; exact (show q_v _ _ (.int 0) from q_vi ff_10_12 rl_0 (by decide))
    rcases j with _ | j
    · show q_v _ (q_f 10 13) (σ a0 13); rw [h0 13 (by decide)]; exact (show q_v _ _ (.int 0) from q_vi ff_10_13 rl_0 (by decide))
    rcases j with _ | j
    · show q_v _ (q_f 10 14) (σ a0 14); rw [h0 14 (by decide)]; exact (show q_v _ _ (.int 0) from q_vi ff_10_14 rl_0 (by decide))
    rcases j with _ | j
    · show q_v _ (q_f 10 15) (.ref h44); exact q_vr (k := 150) (n := 260) ff_10_15 ((q_tu_ne (q_neT (xR h44 _ (q_neT (x238.1 h44 _ (x231.1 h44 _ (x222.1 h44 _ (x215.1 h44 _ (x208.1 h44 _ (x200.1 h44 _ (x192.1 h44 _ (x184.1 h44 _ (x176.1 h44 _ (x168.1 h44 _ (x160.1 h44 _ (x151.1 h44 _ (x143.1 h44 _ (x134.1 h44 _ (x126.1 h44 _ (x118.1 h44 _ (x110.1 h44 _ (x102.1 h44 _ (x94.1 h44 _ (x85.1 h44 _ (x77.1 h44 _ (x69.1 h44 _ (x61.1 h44 _ (x53.1 h44 _ T44).1).1).1).1).1).1).1).1).1).1).1).1).1).1).1).1).1).1).1).1).1).1).1).1 tt238 (by decide)) (x238.1 h44 _ (x231.1 h44 _ (x222.1 h44 _ (x215.1 h44 _ (x208.1 h44 _ (x200.1 h44 _ (x192.1 h44 _ (x184.1 h44 _ (x176.1 h44 _ (x168.1 h44 _ (x160.1 h44 _ (x151.1 h44 _ (x143.1 h44 _ (x134.1 h44 _ (x126.1 h44 _ (x118.1 h44 _ (x110.1 h44 _ (x102.1 h44 _ (x94.1 h44 _ (x85.1 h44 _ (x77.1 h44 _ (x69.1 h44 _ (x61.1 h44 _ (x53.1 h44 _ T44).1).1).1).1).1).1).1).1).1).1).1).1).1).1).1).1).1).1).1).1).1).1).1).1) SR (by decide))).trans (xR h44 _ (q_neT (x238.1 h44 _ (x231.1 h44 _ (x222.1 h44 _ (x215.1 h44 _ (x208.1 h44 _ (x200.1 h44 _ (x192.1 h44 _ (x184.1 h44 _ (x176.1 h44 _ (x168.1 h44 _ (x160.1 h44 _ (x151.1 h44 _ (x143.1 h44 _ (x134.1 h44 _ (x126.1 h44 _ (x118.1 h44 _ (x110.1 h44 _ (x102.1 h44 _ (x94.1 h44 _ (x85.1 h44 _ (x77.1 h44 _ (x69.1 h44 _ (x61.1 h44 _ (x53.1 h44 _ T44).1).1).1).1).1).1).1).1).1).1).1).1).1).1).1).1).1).1).1).1).1).1).1).1 tt238 (by decide)) (x238.1 h44 _ (x231.1 h44 _ (x222.1 h44 _ (x215.1 h44 _ (x208.1 h44 _ (x200.1 h44 _ (x192.1 h44 _ (x184.1 h44 _ (x176.1 h44 _ (x168.1 h44 _ (x160.1 h44 _ (x151.1 h44 _ (x143.1 h44 _ (x134.1 h44 _ (x126.1 h44 _ (x118.1 h44 _ (x110.1 h44 _ (x102.1 h44 _ (x94.1 h44 _ (x85.1 h44 _ (x77.1 h44 _ (x69.1 h44 _ (x61.1 h44 _ (x53.1 h44 _ T44).1).1).1).1).1).1).1).1).1).1).1).1).1).1).1).1).1).1).1).1).1).1).1).1)) (by decide)
    rcases j with _ | j
    · show q_v _ (q_f 10 16) (.ref h53); exact q_vr (k := 151) (n := 260) ff_10_16 ((q_tu_ne (q_neT (xR h53 _ (q_neT (x238.1 h53 _ (x231.1 h53 _ (x222.1 h53 _ (x215.1 h53 _ (x208.1 h53 _ (x200.1 h53 _ (x192.1 h53 _ (x184.1 h53 _ (x176.1 h53 _ (x168.1 h53 _ (x160.1 h53 _ (x151.1 h53 _ (x143.1 h53 _ (x134.1 h53 _ (x126.1 h53 _ (x118.1 h53 _ (x110.1 h53 _ (x102.1 h53 _ (x94.1 h53 _ (x85.1 h53 _ (x77.1 h53 _ (x69.1 h53 _ (x61.1 h53 _ T53).1).1).1).1).1).1).1).1).1).1).1).1).1).1).1).1).1).1).1).1).1).1).1 tt238 (by decide)) (x238.1 h53 _ (x231.1 h53 _ (x222.1 h53 _ (x215.1 h53 _ (x208.1 h53 _ (x200.1 h53 _ (x192.1 h53 _ (x184.1 h53 _ (x176.1 h53 _ (x168.1 h53 _ (x160.1 h53 _ (x151.1 h53 _ (x143.1 h53 _ (x134.1 h53 _ (x126.1 h53 _ (x118.1 h53 _ (x110.1 h53 _ (x102.1 h53 _ (x94.1 h53 _ (x85.1 h53 _ (x77.1 h53 _ (x69.1 h53 _ (x61.1 h53 _ T53).1).1).1).1).1).1).1).1).1).1).1).1).1).1).1).1).1).1).1).1).1).1).1) SR (by decide))).trans (xR h53 _ (q_neT (x238.1 h53 _ (x231.1 h53 _ (x222.1 h53 _ (x215.1 h53 _ (x208.1 h53 _ (x200.1 h53 _ (x192.1 h53 _ (x184.1 h53 _ (x176.1 h53 _ (x168.1 h53 _ (x160.1 h53 _ (x151.1 h53 _ (x143.1 h53 _ (x134.1 h53 _ (x126.1 h53 _ (x118.1 h53 _ (x110.1 h53 _ (x102.1 h53 _ (x94.1 h53 _ (x85.1 h53 _ (x77.1 h53 _ (x69.1 h53 _ (x61.1 h53 _ T53).1).1).1).1).1).1).1).1).1).1).1).1).1).1).1).1).1).1).1).1).1).1).1 tt238 (by decide)) (x238.1 h53 _ (x231.1 h53 _ (x222.1 h53 _ (x215.1 h53 _ (x208.1 h53 _ (x200.1 h53 _ (x192.1 h53 _ (x184.1 h53 _ (x176.1 h53 _ (x168.1 h53 _ (x160.1 h53 _ (x151.1 h53 _ (x143.1 h53 _ (x134.1 h53 _ (x126.1 h53 _ (x118.1 h53 _ (x110.1 h53 _ (x102.1 h53 _ (x94.1 h53 _ (x85.1 h53 _ (x77.1 h53 _ (x69.1 h53 _ (x61.1 h53 _ T53).1).1).1).1).1).1).1).1).1).1).1).1).1).1).1).1).1).1).1).1).1).1).1)) (by decide)
    rcases j with _ | j
    · show q_v _ (q_f 10 17) (.ref h61); exact q_vr (k := 152) (n := 16) ff_10_17 ((q_tu_ne (q_neT (xR h61 _ (q_neT (x238.1 h61 _ (x231.1 h61 _ (x222.1 h61 _ (x215.1 h61 _ (x208.1 h61 _ (x200.1 h61 _ (x192.1 h61 _ (x184.1 h61 _ (x176.1 h61 _ (x168.1 h61 _ (x160.1 h61 _ (x151.1 h61 _ (x143.1 h61 _ (x134.1 h61 _ (x126.1 h61 _ (x118.1 h61 _ (x110.1 h61 _ (x102.1 h61 _ (x94.1 h61 _ (x85.1 h61 _ (x77.1 h61 _ (x69.1 h61 _ T61).1).1).1).1).1).1).1).1).1).1).1).1).1).1).1).1).1).1).1).1).1).1 tt238 (by decide)) (x238.1 h61 _ (x231.1 h61 _ (x222.1 h61 _ (x215.1 h61 _ (x208.1 h61 _ (x200.1 h61 _ (x192.1 h61 _ (x184.1 h61 _ (x176.1 h61 _ (x168.1 h61 _ (x160.1 h61 _ (x151.1 h61 _ (x143.1 h61 _ (x134.1 h61 _ (x126.1 h61 _ (x118.1 h61 _ (x110.1 h61 _ (x102.1 h61 _ (x94.1 h61 _ (x85.1 h61 _ (x77.1 h61 _ (x69.1 h61 _ T61).1).1).1).1).1).1).1).1).1).1).1).1).1).1).1).1).1).1).1).1).1).1) SR (by decide))).trans (xR h61 _ (q_neT (x238.1 h61 _ (x231.1 h61 _ (x222.1 h61 _ (x215.1 h61 _ (x208.1 h61 _ (x200.1 h61 _ (x192.1 h61 _ (x184.1 h61 _ (x176.1 h61 _ (x168.1 h61 _ (x160.1 h61 _ (x151.1 h61 _ (x143.1 h61 _ (x134.1 h61 _ (x126.1 h61 _ (x118.1 h61 _ (x110.1 h61 _ (x102.1 h61 _ (x94.1 h61 _ (x85.1 h61 _ (x77.1 h61 _ (x69.1 h61 _ T61).1).1).1).1).1).1).1).1).1).1).1).1).1).1).1).1).1).1).1).1).1).1 tt238 (by decide)) (x238.1 h61 _ (x231.1 h61 _ (x222.1 h61 _ (x215.1 h61 _ (x208.1 h61 _ (x200.1 h61 _ (x192.1 h61 _ (x184.1 h61 _ (x176.1 h61 _ (x168.1 h61 _ (x160.1 h61 _ (x151.1 h61 _ (x143.1 h61 _ (x134.1 h61 _ (x126.1 h61 _ (x118.1 h61 _ (x110.1 h61 _ (x102.1 h61 _ (x94.1 h61 _ (x85.1 h61 _ (x77.1 h61 _ (x69.1 h61 _ T61).1).1).1).1).1).1).1).1).1).1).1).1).1).1).1).1).1).1).1).1).1).1)) (by decide)
    rcases j with _ | j
    · show q_v _ (q_f 10 18) (.ref h69); exact q_vr (k := 153) (n := 16) ff_10_18 ((q_tu_ne (q_neT (xR h69 _ (q_neT (x238.1 h69 _ (x231.1 h69 _ (x222.1 h69 _ (x215.1 h69 _ (x208.1 h69 _ (x200.1 h69 _ (x192.1 h69 _ (x184.1 h69 _ (x176.1 h69 _ (x168.1 h69 _ (x160.1 h69 _ (x151.1 h69 _ (x143.1 h69 _ (x134.1 h69 _ (x126.1 h69 _ (x118.1 h69 _ (x110.1 h69 _ (x102.1 h69 _ (x94.1 h69 _ (x85.1 h69 _ (x77.1 h69 _ T69).1).1).1).1).1).1).1).1).1).1).1).1).1).1).1).1).1).1).1).1).1 tt238 (by decide)) (x238.1 h69 _ (x231.1 h69 _ (x222.1 h69 _ (x215.1 h69 _ (x208.1 h69 _ (x200.1 h69 _ (x192.1 h69 _ (x184.1 h69 _ (x176.1 h69 _ (x168.1 h69 _ (x160.1 h69 _ (x151.1 h69 _ (x143.1 h69 _ (x134.1 h69 _ (x126.1 h69 _ (x118.1 h69 _ (x110.1 h69 _ (x102.1 h69 _ (x94.1 h69 _ (x85.1 h69 _ (x77.1 h69 _ T69).1).1).1).1).1).1).1).1).1).1).1).1).1).1).1).1).1).1).1).1).1) SR (by decide))).trans (xR h69 _ (q_neT (x238.1 h69 _ (x231.1 h69 _ (x222.1 h69 _ (x215.1 h69 _ (x208.1 h69 _ (x200.1 h69 _ (x192.1 h69 _ (x184.1 h69 _ (x176.1 h69 _ (x168.1 h69 _ (x160.1 h69 _ (x151.1 h69 _ (x143.1 h69 _ (x134.1 h69 _ (x126.1 h69 _ (x118.1 h69 _ (x110.1 h69 _ (x102.1 h69 _ (x94.1 h69 _ (x85.1 h69 _ (x77.1 h69 _ T69).1).1).1).1).1).1).1).1).1).1).1).1).1).1).1).1).1).1).1).1).1 tt238 (by decide)) (x238.1 h69 _ (x231.1 h69 _ (x222.1 h69 _ (x215.1 h69 _ (x208.1 h69 _ (x200.1 h69 _ (x192.1 h69 _ (x184.1 h69 _ (x176.1 h69 _ (x168.1 h69 _ (x160.1 h69 _ (x151.1 h69 _ (x143.1 h69 _ (x134.1 h69 _ (x126.1 h69 _ (x118.1 h69 _ (x110.1 h69 _ (x102.1 h69 _ (x94.1 h69 _ (x85.1 h69 _ (x77.1 h69 _ T69).1).1).1).1).1).1).1).1).1).1).1).1).1).1).1).1).1).1).1).1).1)) (by decide)
    rcases j with _ | j
    · show q_v _ (q_f 10 19) (.ref h77); exact q_vr (k := 154) (n := 16) ff_10_19 ((q_tu_ne (q_neT (xR h77 _ (q_neT (x238.1 h77 _ (x231.1 h77 _ (x222.1 h77 _ (x215.1 h77 _ (x208.1 h77 _ (x200.1 h77 _ (x192.1 h77 _ (x184.1 h77 _ (x176.1 h77 _ (x168.1 h77 _ (x160.1 h77 _ (x151.1 h77 _ (x143.1 h77 _ (x134.1 h77 _ (x126.1 h77 _ (x118.1 h77 _ (x110.1 h77 _ (x102.1 h77 _ (x94.1 h77 _ (x85.1 h77 _ T77).1).1).1).1).1).1).1).1).1).1).1).1).1).1).1).1).1).1).1).1 tt238 (by decide)) (x238.1 h77 _ (x231.1 h77 _ (x222.1 h77 _ (x215.1 h77 _ (x208.1 h77 _ (x200.1 h77 _ (x192.1 h77 _ (x184.1 h77 _ (x176.1 h77 _ (x168.1 h77 _ (x160.1 h77 _ (x151.1 h77 _ (x143.1 h77 _ (x134.1 h77 _ (x126.1 h77 _ (x118.1 h77 _ (x110.1 h77 _ (x102.1 h77 _ (x94.1 h77 _ (x85.1 h77 _ T77).1).1).1).1).1).1).1).1).1).1).1).1).1).1).1).1).1).1).1).1) SR (by decide))).trans (xR h77 _ (q_neT (x238.1 h77 _ (x231.1 h77 _ (x222.1 h77 _ (x215.1 h77 _ (x208.1 h77 _ (x200.1 h77 _ (x192.1 h77 _ (x184.1 h77 _ (x176.1 h77 _ (x168.1 h77 _ (x160.1 h77 _ (x151.1 h77 _ (x143.1 h77 _ (x134.1 h77 _ (x126.1 h77 _ (x118.1 h77 _ (x110.1 h77 _ (x102.1 h77 _ (x94.1 h77 _ (x85.1 h77 _ T77).1).1).1).1).1).1).1).1).1).1).1).1).1).1).1).1).1).1).1).1 tt238 (by decide)) (x238.1 h77 _ (x231.1 h77 _ (x222.1 h77 _ (x215.1 h77 _ (x208.1 h77 _ (x200.1 h77 _ (x192.1 h77 _ (x184.1 h77 _ (x176.1 h77 _ (x168.1 h77 _ (x160.1 h77 _ (x151.1 h77 _ (x143.1 h77 _ (x134.1 h77 _ (x126.1 h77 _ (x118.1 h77 _ (x110.1 h77 _ (x102.1 h77 _ (x94.1 h77 _ (x85.1 h77 _ T77).1).1).1).1).1).1).1).1).1).1).1).1).1).1).1).1).1).1).1).1)) (by decide)
    rcases j with _ | j
    · show q_v _ (q_f 10 20) (.ref h85); exact q_vr (k := 155) (n := 16) ff_10_20 ((q_tu_ne (q_neT (xR h85 _ (q_neT (x238.1 h85 _ (x231.1 h85 _ (x222.1 h85 _ (x215.1 h85 _ (x208.1 h85 _ (x200.1 h85 _ (x192.1 h85 _ (x184.1 h85 _ (x176.1 h85 _ (x168.1 h85 _ (x160.1 h85 _ (x151.1 h85 _ (x143.1 h85 _ (x134.1 h85 _ (x126.1 h85 _ (x118.1 h85 _ (x110.1 h85 _ (x102.1 h85 _ (x94.1 h85 _ T85).1).1).1).1).1).1).1).1).1).1).1).1).1).1).1).1).1).1).1 tt238 (by decide)) (x238.1 h85 _ (x231.1 h85 _ (x222.1 h85 _ (x215.1 h85 _ (x208.1 h85 _ (x200.1 h85 _ (x192.1 h85 _ (x184.1 h85 _ (x176.1 h85 _ (x168.1 h85 _ (x160.1 h85 _ (x151.1 h85 _ (x143.1 h85 _ (x134.1 h85 _ (x126.1 h85 _ (x118.1 h85 _ (x110.1 h85 _ (x102.1 h85 _ (x94.1 h85 _ T85).1).1).1).1).1).1).1).1).1).1).1).1).1).1).1).1).1).1).1) SR (by decide))).trans (xR h85 _ (q_neT (x238.1 h85 _ (x231.1 h85 _ (x222.1 h85 _ (x215.1 h85 _ (x208.1 h85 _ (x200.1 h85 _ (x192.1 h85 _ (x184.1 h85 _ (x176.1 h85 _ (x168.1 h85 _ (x160.1 h85 _ (x151.1 h85 _ (x143.1 h85 _ (x134.1 h85 _ (x126.1 h85 _ (x118.1 h85 _ (x110.1 h85 _ (x102.1 h85 _ (x94.1 h85 _ T85).1).1).1).1).1).1).1).1).1).1).1).1).1).1).1).1).1).1).1 tt238 (by decide)) (x238.1 h85 _ (x231.1 h85 _ (x222.1 h85 _ (x215.1 h85 _ (x208.1 h85 _ (x200.1 h85 _ (x192.1 h85 _ (x184.1 h85 _ (x176.1 h85 _ (x168.1 h85 _ (x160.1 h85 _ (x151.1 h85 _ (x143.1 h85 _ (x134.1 h85 _ (x126.1 h85 _ (x118.1 h85 _ (x110.1 h85 _ (x102.1 h85 _ (x94.1 h85 _ T85).1).1).1).1).1).1).1).1).1).1).1).1).1).1).1).1).1).1).1)) (by decide)
    rcases j with _ | j
    · show q_v _ (q_f 10 21) (.ref h94); exact q_vr (k := 156) (n := 260) ff_10_21 ((q_tu_ne (q_neT (xR h94 _ (q_neT (x238.1 h94 _ (x231.1 h94 _ (x222.1 h94 _ (x215.1 h94 _ (x208.1 h94 _ (x200.1 h94 _ (x192.1 h94 _ (x184.1 h94 _ (x176.1 h94 _ (x168.1 h94 _ (x160.1 h94 _ (x151.1 h94 _ (x143.1 h94 _ (x134.1 h94 _ (x126.1 h94 _ (x118.1 h94 _ (x110.1 h94 _ (x102.1 h94 _ T94).1).1).1).1).1).1).1).1).1).1).1).1).1).1).1).1).1).1 tt238 (by decide)) (x238.1 h94 _ (x231.1 h94 _ (x222.1 h94 _ (x215.1 h94 _ (x208.1 h94 _ (x200.1 h94 _ (x192.1 h94 _ (x184.1 h94 _ (x176.1 h94 _ (x168.1 h94 _ (x160.1 h94 _ (x151.1 h94 _ (x143.1 h94 _ (x134.1 h94 _ (x126.1 h94 _ (x118.1 h94 _ (x110.1 h94 _ (x102.1 h94 _ T94).1).1).1).1).1).1).1).1).1).1).1).1).1).1).1).1).1).1) SR (by decide))).trans (xR h94 _ (q_neT (x238.1 h94 _ (x231.1 h94 _ (x222.1 h94 _ (x215.1 h94 _ (x208.1 h94 _ (x200.1 h94 _ (x192.1 h94 _ (x184.1 h94 _ (x176.1 h94 _ (x168.1 h94 _ (x160.1 h94 _ (x151.1 h94 _ (x143.1 h94 _ (x134.1 h94 _ (x126.1 h94 _ (x118.1 h94 _ (x110.1 h94 _ (x102.1 h94 _ T94).1).1).1).1).1).1).1).1).1).1).1).1).1).1).1).1).1).1 tt238 (by decide)) (x238.1 h94 _ (x231.1 h94 _ (x222.1 h94 _ (x215.1 h94 _ (x208.1 h94 _ (x200.1 h94 _ (x192.1 h94 _ (x184.1 h94 _ (x176.1 h94 _ (x168.1 h94 _ (x160.1 h94 _ (x151.1 h94 _ (x143.1 h94 _ (x134.1 h94 _ (x126.1 h94 _ (x118.1 h94 _ (x110.1 h94 _ (x102.1 h94 _ T94).1).1).1).1).1).1).1).1).1).1).1).1).1).1).1).1).1).1)) (by decide)
    rcases j with _ | j
    · show q_v _ (q_f 10 22) (.ref h102); exact q_vr (k := 157) (n := 16) ff_10_22 ((q_tu_ne (q_neT (xR h102 _ (q_neT (x238.1 h102 _ (x231.1 h102 _ (x222.1 h102 _ (x215.1 h102 _ (x208.1 h102 _ (x200.1 h102 _ (x192.1 h102 _ (x184.1 h102 _ (x176.1 h102 _ (x168.1 h102 _ (x160.1 h102 _ (x151.1 h102 _ (x143.1 h102 _ (x134.1 h102 _ (x126.1 h102 _ (x118.1 h102 _ (x110.1 h102 _ T102).1).1).1).1).1).1).1).1).1).1).1).1).1).1).1).1).1 tt238 (by decide)) (x238.1 h102 _ (x231.1 h102 _ (x222.1 h102 _ (x215.1 h102 _ (x208.1 h102 _ (x200.1 h102 _ (x192.1 h102 _ (x184.1 h102 _ (x176.1 h102 _ (x168.1 h102 _ (x160.1 h102 _ (x151.1 h102 _ (x143.1 h102 _ (x134.1 h102 _ (x126.1 h102 _ (x118.1 h102 _ (x110.1 h102 _ T102).1).1).1).1).1).1).1).1).1).1).1).1).1).1).1).1).1) SR (by decide))).trans (xR h102 _ (q_neT (x238.1 h102 _ (x231.1 h102 _ (x222.1 h102 _ (x215.1 h102 _ (x208.1 h102 _ (x200.1 h102 _ (x192.1 h102 _ (x184.1 h102 _ (x176.1 h102 _ (x168.1 h102 _ (x160.1 h102 _ (x151.1 h102 _ (x143.1 h102 _ (x134.1 h102 _ (x126.1 h102 _ (x118.1 h102 _ (x110.1 h102 _ T102).1).1).1).1).1).1).1).1).1).1).1).1).1).1).1).1).1 tt238 (by decide)) (x238.1 h102 _ (x231.1 h102 _ (x222.1 h102 _ (x215.1 h102 _ (x208.1 h102 _ (x200.1 h102 _ (x192.1 h102 _ (x184.1 h102 _ (x176.1 h102 _ (x168.1 h102 _ (x160.1 h102 _ (x151.1 h102 _ (x143.1 h102 _ (x134.1 h102 _ (x126.1 h102 _ (x118.1 h102 _ (x110.1 h102 _ T102).1).1).1).1).1).1).1).1).1).1).1).1).1).1).1).1).1)) (by decide)
    rcases j with _ | j
    · show q_v _ (q_f 10 23) (.ref h110); exact q_vr (k := 158) (n := 16) ff_10_23 ((q_tu_ne (q_neT (xR h110 _ (q_neT (x238.1 h110 _ (x231.1 h110 _ (x222.1 h110 _ (x215.1 h110 _ (x208.1 h110 _ (x200.1 h110 _ (x192.1 h110 _ (x184.1 h110 _ (x176.1 h110 _ (x168.1 h110 _ (x160.1 h110 _ (x151.1 h110 _ (x143.1 h110 _ (x134.1 h110 _ (x126.1 h110 _ (x118.1 h110 _ T110).1).1).1).1).1).1).1).1).1).1).1).1).1).1).1).1 tt238 (by decide)) (x238.1 h110 _ (x231.1 h110 _ (x222.1 h110 _ (x215.1 h110 _ (x208.1 h110 _ (x200.1 h110 _ (x192.1 h110 _ (x184.1 h110 _ (x176.1 h110 _ (x168.1 h110 _ (x160.1 h110 _ (x151.1 h110 _ (x143.1 h110 _ (x134.1 h110 _ (x126.1 h110 _ (x118.1 h110 _ T110).1).1).1).1).1).1).1).1).1).1).1).1).1).1).1).1) SR (by decide))).trans (xR h110 _ (q_neT (x238.1 h110 _ (x231.1 h110 _ (x222.1 h110 _ (x215.1 h110 _ (x208.1 h110 _ (x200.1 h110 _ (x192.1 h110 _ (x184.1 h110 _ (x176.1 h110 _ (x168.1 h110 _ (x160.1 h110 _ (x151.1 h110 _ (x143.1 h110 _ (x134.1 h110 _ (x126.1 h110 _ (x118.1 h110 _ T110).1).1).1).1).1).1).1).1).1).1).1).1).1).1).1).1 tt238 (by decide)) (x238.1 h110 _ (x231.1 h110 _ (x222.1 h110 _ (x215.1 h110 _ (x208.1 h110 _ (x200.1 h110 _ (x192.1 h110 _ (x184.1 h110 _ (x176.1 h110 _ (x168.1 h110 _ (x160.1 h110 _ (x151.1 h110 _ (x143.1 h110 _ (x134.1 h110 _ (x126.1 h110 _ (x118.1 h110 _ T110).1).1).1).1).1).1).1).1).1).1).1).1).1).1).1).1)) (by decide)
    rcases j with _ | j
    · show q_v _ (q_f 10 24) (.ref h118); exact q_vr (k := 159) (n := 16) ff_10_24 ((q_tu_ne (q_neT (xR h118 _ (q_neT (x238.1 h118 _ (x231.1 h118 _ (x222.1 h118 _ (x215.1 h118 _ (x208.1 h118 _ (x200.1 h118 _ (x192.1 h118 _ (x184.1 h118 _ (x176.1 h118 _ (x168.1 h118 _ (x160.1 h118 _ (x151.1 h118 _ (x143.1 h118 _ (x134.1 h118 _ (x126.1 h118 _ T118).1).1).1).1).1).1).1).1).1).1).1).1).1).1).1 tt238 (by decide)) (x238.1 h118 _ (x231.1 h118 _ (x222.1 h118 _ (x215.1 h118 _ (x208.1 h118 _ (x200.1 h118 _ (x192.1 h118 _ (x184.1 h118 _ (x176.1 h118 _ (x168.1 h118 _ (x160.1 h118 _ (x151.1 h118 _ (x143.1 h118 _ (x134.1 h118 _ (x126.1 h118 _ T118).1).1).1).1).1).1).1).1).1).1).1).1).1).1).1) SR (by decide))).trans (xR h118 _ (q_neT (x238.1 h118 _ (x231.1 h118 _ (x222.1 h118 _ (x215.1 h118 _ (x208.1 h118 _ (x200.1 h118 _ (x192.1 h118 _ (x184.1 h118 _ (x176.1 h118 _ (x168.1 h118 _ (x160.1 h118 _ (x151.1 h118 _ (x143.1 h118 _ (x134.1 h118 _ (x126.1 h118 _ T118).1).1).1).1).1).1).1).1).1).1).1).1).1).1).1 tt238 (by decide)) (x238.1 h118 _ (x231.1 h118 _ (x222.1 h118 _ (x215.1 h118 _ (x208.1 h118 _ (x200.1 h118 _ (x192.1 h118 _ (x184.1 h118 _ (x176.1 h118 _ (x168.1 h118 _ (x160.1 h118 _ (x151.1 h118 _ (x143.1 h118 _ (x134.1 h118 _ (x126.1 h118 _ T118).1).1).1).1).1).1).1).1).1).1).1).1).1).1).1)) (by decide)
    rcases j with _ | j
    · show q_v _ (q_f 10 25) (.ref h126); exact q_vr (k := 160) (n := 16) ff_10_25 ((q_tu_ne (q_neT (xR h126 _ (q_neT (x238.1 h126 _ (x231.1 h126 _ (x222.1 h126 _ (x215.1 h126 _ (x208.1 h126 _ (x200.1 h126 _ (x192.1 h126 _ (x184.1 h126 _ (x176.1 h126 _ (x168.1 h126 _ (x160.1 h126 _ (x151.1 h126 _ (x143.1 h126 _ (x134.1 h126 _ T126).1).1).1).1).1).1).1).1).1).1).1).1).1).1 tt238 (by decide)) (x238.1 h126 _ (x231.1 h126 _ (x222.1 h126 _ (x215.1 h126 _ (x208.1 h126 _ (x200.1 h126 _ (x192.1 h126 _ (x184.1 h126 _ (x176.1 h126 _ (x168.1 h126 _ (x160.1 h126 _ (x151.1 h126 _ (x143.1 h126 _ (x134.1 h126 _ T126).1).1).1).1).1).1).1).1).1).1).1).1).1).1) SR (by decide))).trans (xR h126 _ (q_neT (x238.1 h126 _ (x231.1 h126 _ (x222.1 h126 _ (x215.1 h126 _ (x208.1 h126 _ (x200.1 h126 _ (x192.1 h126 _ (x184.1 h126 _ (x176.1 h126 _ (x168.1 h126 _ (x160.1 h126 _ (x151.1 h126 _ (x143.1 h126 _ (x134.1 h126 _ T126).1).1).1).1).1).1).1).1).1).1).1).1).1).1 tt238 (by decide)) (x238.1 h126 _ (x231.1 h126 _ (x222.1 h126 _ (x215.1 h126 _ (x208.1 h126 _ (x200.1 h126 _ (x192.1 h126 _ (x184.1 h126 _ (x176.1 h126 _ (x168.1 h126 _ (x160.1 h126 _ (x151.1 h126 _ (x143.1 h126 _ (x134.1 h126 _ T126).1).1).1).1).1).1).1).1).1).1).1).1).1).1)) (by decide)
    rcases j with _ | j
    · show q_v _ (q_f 10 26) (.ref h134); exact q_vr (k := 161) (n := 64) ff_10_26 ((q_tu_ne (q_neT (xR h134 _ (q_neT (x238.1 h134 _ (x231.1 h134 _ (x222.1 h134 _ (x215.1 h134 _ (x208.1 h134 _ (x200.1 h134 _ (x192.1 h134 _ (x184.1 h134 _ (x176.1 h134 _ (x168.1 h134 _ (x160.1 h134 _ (x151.1 h134 _ (x143.1 h134 _ T134).1).1).1).1).1).1).1).1).1).1).1).1).1 tt238 (by decide)) (x238.1 h134 _ (x231.1 h134 _ (x222.1 h134 _ (x215.1 h134 _ (x208.1 h134 _ (x200.1 h134 _ (x192.1 h134 _ (x184.1 h134 _ (x176.1 h134 _ (x168.1 h134 _ (x160.1 h134 _ (x151.1 h134 _ (x143.1 h134 _ T134).1).1).1).1).1).1).1).1).1).1).1).1).1) SR (by decide))).trans (xR h134 _ (q_neT (x238.1 h134 _ (x231.1 h134 _ (x222.1 h134 _ (x215.1 h134 _ (x208.1 h134 _ (x200.1 h134 _ (x192.1 h134 _ (x184.1 h134 _ (x176.1 h134 _ (x168.1 h134 _ (x160.1 h134 _ (x151.1 h134 _ (x143.1 h134 _ T134).1).1).1).1).1).1).1).1).1).1).1).1).1 tt238 (by decide)) (x238.1 h134 _ (x231.1 h134 _ (x222.1 h134 _ (x215.1 h134 _ (x208.1 h134 _ (x200.1 h134 _ (x192.1 h134 _ (x184.1 h134 _ (x176.1 h134 _ (x168.1 h134 _ (x160.1 h134 _ (x151.1 h134 _ (x143.1 h134 _ T134).1).1).1).1).1).1).1).1).1).1).1).1).1)) (by decide)
    rcases j with _ | j
    · show q_v _ (q_f 10 27) (.ref h143); exact q_vr (k := 162) (n := 260) ff_10_27 ((q_tu_ne (q_neT (xR h143 _ (q_neT (x238.1 h143 _ (x231.1 h143 _ (x222.1 h143 _ (x215.1 h143 _ (x208.1 h143 _ (x200.1 h143 _ (x192.1 h143 _ (x184.1 h143 _ (x176.1 h143 _ (x168.1 h143 _ (x160.1 h143 _ (x151.1 h143 _ T143).1).1).1).1).1).1).1).1).1).1).1).1 tt238 (by decide)) (x238.1 h143 _ (x231.1 h143 _ (x222.1 h143 _ (x215.1 h143 _ (x208.1 h143 _ (x200.1 h143 _ (x192.1 h143 _ (x184.1 h143 _ (x176.1 h143 _ (x168.1 h143 _ (x160.1 h143 _ (x151.1 h143 _ T143).1).1).1).1).1).1).1).1).1).1).1).1) SR (by decide))).trans (xR h143 _ (q_neT (x238.1 h143 _ (x231.1 h143 _ (x222.1 h143 _ (x215.1 h143 _ (x208.1 h143 _ (x200.1 h143 _ (x192.1 h143 _ (x184.1 h143 _ (x176.1 h143 _ (x168.1 h143 _ (x160.1 h143 _ (x151.1 h143 _ T143).1).1).1).1).1).1).1).1).1).1).1).1 tt238 (by decide)) (x238.1 h143 _ (x231.1 h143 _ (x222.1 h143 _ (x215.1 h143 _ (x208.1 h143 _ (x200.1 h143 _ (x192.1 h143 _ (x184.1 h143 _ (x176.1 h143 _ (x168.1 h143 _ (x160.1 h143 _ (x151.1 h143 _ T143).1).1).1).1).1).1).1).1).1).1).1).1)) (by decide)
    rcases j with _ | j
    · show q_v _ (q_f 10 28) (.ref h151); exact q_vr (k := 163) (n := 9) ff_10_28 ((q_tu_ne (q_neT (xR h151 _ (q_neT (x238.1 h151 _ (x231.1 h151 _ (x222.1 h151 _ (x215.1 h151 _ (x208.1 h151 _ (x200.1 h151 _ (x192.1 h151 _ (x184.1 h151 _ (x176.1 h151 _ (x168.1 h151 _ (x160.1 h151 _ T151).1).1).1).1).1).1).1).1).1).1).1 tt238 (by decide)) (x238.1 h151 _ (x231.1 h151 _ (x222.1 h151 _ (x215.1 h151 _ (x208.1 h151 _ (x200.1 h151 _ (x192.1 h151 _ (x184.1 h151 _ (x176.1 h151 _ (x168.1 h151 _ (x160.1 h151 _ T151).1).1).1).1).1).1).1).1).1).1).1) SR (by decide))).trans (xR h151 _ (q_neT (x238.1 h151 _ (x231.1 h151 _ (x222.1 h151 _ (x215.1 h151 _ (x208.1 h151 _ (x200.1 h151 _ (x192.1 h151 _ (x184.1 h151 _ (x176.1 h151 _ (x168.1 h151 _ (x160.1 h151 _ T151).1).1).1).1).1).1).1).1).1).1).1 tt238 (by decide)) (x238.1 h151 _ (x231.1 h151 _ (x222.1 h151 _ (x215.1 h151 _ (x208.1 h151 _ (x200.1 h151 _ (x192.1 h151 _ (x184.1 h151 _ (x176.1 h151 _ (x168.1 h151 _ (x160.1 h151 _ T151).1).1).1).1).1).1).1).1).1).1).1)) (by decide)
    rcases j with _ | j
    · show q_v _ (q_f 10 29) (σ a0 29); rw [h0 29 (by decide)]; exact (show q_v _ _ (.int 0) from q_vi ff_10_29 rl_0 (by decide))
    rcases j with _ | j
    · show q_v _ (q_f 10 30) (.ref h160); exact q_vr (k := 164) (n := 3904) ff_10_30 ((q_tu_ne (q_neT (xR h160 _ (q_neT (x238.1 h160 _ (x231.1 h160 _ (x222.1 h160 _ (x215.1 h160 _ (x208.1 h160 _ (x200.1 h160 _ (x192.1 h160 _ (x184.1 h160 _ (x176.1 h160 _ (x168.1 h160 _ T160).1).1).1).1).1).1).1).1).1).1 tt238 (by decide)) (x238.1 h160 _ (x231.1 h160 _ (x222.1 h160 _ (x215.1 h160 _ (x208.1 h160 _ (x200.1 h160 _ (x192.1 h160 _ (x184.1 h160 _ (x176.1 h160 _ (x168.1 h160 _ T160).1).1).1).1).1).1).1).1).1).1) SR (by decide))).trans (xR h160 _ (q_neT (x238.1 h160 _ (x231.1 h160 _ (x222.1 h160 _ (x215.1 h160 _ (x208.1 h160 _ (x200.1 h160 _ (x192.1 h160 _ (x184.1 h160 _ (x176.1 h160 _ (x168.1 h160 _ T160).1).1).1).1).1).1).1).1).1).1 tt238 (by decide)) (x238.1 h160 _ (x231.1 h160 _ (x222.1 h160 _ (x215.1 h160 _ (x208.1 h160 _ (x200.1 h160 _ (x192.1 h160 _ (x184.1 h160 _ (x176.1 h160 _ (x168.1 h160 _ T160).1).1).1).1).1).1).1).1).1).1)) (by decide)
    rcases j with _ | j
    · show q_v _ (q_f 10 31) (.ref h168); exact q_vr (k := 165) (n := 64) ff_10_31 ((q_tu_ne (q_neT (xR h168 _ (q_neT (x238.1 h168 _ (x231.1 h168 _ (x222.1 h168 _ (x215.1 h168 _ (x208.1 h168 _ (x200.1 h168 _ (x192.1 h168 _ (x184.1 h168 _ (x176.1 h168 _ T168).1).1).1).1).1).1).1).1).1 tt238 (by decide)) (x238.1 h168 _ (x231.1 h168 _ (x222.1 h168 _ (x215.1 h168 _ (x208.1 h168 _ (x200.1 h168 _ (x192.1 h168 _ (x184.1 h168 _ (x176.1 h168 _ T168).1).1).1).1).1).1).1).1).1) SR (by decide))).trans (xR h168 _ (q_neT (x238.1 h168 _ (x231.1 h168 _ (x222.1 h168 _ (x215.1 h168 _ (x208.1 h168 _ (x200.1 h168 _ (x192.1 h168 _ (x184.1 h168 _ (x176.1 h168 _ T168).1).1).1).1).1).1).1).1).1 tt238 (by decide)) (x238.1 h168 _ (x231.1 h168 _ (x222.1 h168 _ (x215.1 h168 _ (x208.1 h168 _ (x200.1 h168 _ (x192.1 h168 _ (x184.1 h168 _ (x176.1 h168 _ T168).1).1).1).1).1).1).1).1).1)) (by decide)
    rcases j with _ | j
    · show q_v _ (q_f 10 32) (.ref h176); exact q_vr (k := 166) (n := 64) ff_10_32 ((q_tu_ne (q_neT (xR h176 _ (q_neT (x238.1 h176 _ (x231.1 h176 _ (x222.1 h176 _ (x215.1 h176 _ (x208.1 h176 _ (x200.1 h176 _ (x192.1 h176 _ (x184.1 h176 _ T176).1).1).1).1).1).1).1).1 tt238 (by decide)) (x238.1 h176 _ (x231.1 h176 _ (x222.1 h176 _ (x215.1 h176 _ (x208.1 h176 _ (x200.1 h176 _ (x192.1 h176 _ (x184.1 h176 _ T176).1).1).1).1).1).1).1).1) SR (by decide))).trans (xR h176 _ (q_neT (x238.1 h176 _ (x231.1 h176 _ (x222.1 h176 _ (x215.1 h176 _ (x208.1 h176 _ (x200.1 h176 _ (x192.1 h176 _ (x184.1 h176 _ T176).1).1).1).1).1).1).1).1 tt238 (by decide)) (x238.1 h176 _ (x231.1 h176 _ (x222.1 h176 _ (x215.1 h176 _ (x208.1 h176 _ (x200.1 h176 _ (x192.1 h176 _ (x184.1 h176 _ T176).1).1).1).1).1).1).1).1)) (by decide)
    rcases j with _ | j
    · show q_v _ (q_f 10 33) (.ref h184); exact q_vr (k := 167) (n := 64) ff_10_33 ((q_tu_ne (q_neT (xR h184 _ (q_neT (x238.1 h184 _ (x231.1 h184 _ (x222.1 h184 _ (x215.1 h184 _ (x208.1 h184 _ (x200.1 h184 _ (x192.1 h184 _ T184).1).1).1).1).1).1).1 tt238 (by decide)) (x238.1 h184 _ (x231.1 h184 _ (x222.1 h184 _ (x215.1 h184 _ (x208.1 h184 _ (x200.1 h184 _ (x192.1 h184 _ T184).1).1).1).1).1).1).1) SR (by decide))).trans (xR h184 _ (q_neT (x238.1 h184 _ (x231.1 h184 _ (x222.1 h184 _ (x215.1 h184 _ (x208.1 h184 _ (x200.1 h184 _ (x192.1 h184 _ T184).1).1).1).1).1).1).1 tt238 (by decide)) (x238.1 h184 _ (x231.1 h184 _ (x222.1 h184 _ (x215.1 h184 _ (x208.1 h184 _ (x200.1 h184 _ (x192.1 h184 _ T184).1).1).1).1).1).1).1)) (by decide)
    rcases j with _ | j
    · show q_v _ (q_f 10 34) (.ref h192); exact q_vr (k := 168) (n := 64) ff_10_34 ((q_tu_ne (q_neT (xR h192 _ (q_neT (x238.1 h192 _ (x231.1 h192 _ (x222.1 h192 _ (x215.1 h192 _ (x208.1 h192 _ (x200.1 h192 _ T192).1).1).1).1).1).1 tt238 (by decide)) (x238.1 h192 _ (x231.1 h192 _ (x222.1 h192 _ (x215.1 h192 _ (x208.1 h192 _ (x200.1 h192 _ T192).1).1).1).1).1).1) SR (by decide))).trans (xR h192 _ (q_neT (x238.1 h192 _ (x231.1 h192 _ (x222.1 h192 _ (x215.1 h192 _ (x208.1 h192 _ (x200.1 h192 _ T192).1).1).1).1).1).1 tt238 (by decide)) (x238.1 h192 _ (x231.1 h192 _ (x222.1 h192 _ (x215.1 h192 _ (x208.1 h192 _ (x200.1 h192 _ T192).1).1).1).1).1).1)) (by decide)
    rcases j with _ | j
    · show q_v _ (q_f 10 35) (.ref h200); exact q_vr (k := 169) (n := 64) ff_10_35 ((q_tu_ne (q_neT (xR h200 _ (q_neT (x238.1 h200 _ (x231.1 h200 _ (x222.1 h200 _ (x215.1 h200 _ (x208.1 h200 _ T200).1).1).1).1).1 tt238 (by decide)) (x238.1 h200 _ (x231.1 h200 _ (x222.1 h200 _ (x215.1 h200 _ (x208.1 h200 _ T200).1).1).1).1).1) SR (by decide))).trans (xR h200 _ (q_neT (x238.1 h200 _ (x231.1 h200 _ (x222.1 h200 _ (x215.1 h200 _ (x208.1 h200 _ T200).1).1).1).1).1 tt238 (by decide)) (x238.1 h200 _ (x231.1 h200 _ (x222.1 h200 _ (x215.1 h200 _ (x208.1 h200 _ T200).1).1).1).1).1)) (by decide)
    rcases j with _ | j
    · show q_v _ (q_f 10 36) (.ref h208); exact q_vr (k := 170) (n := 64) ff_10_36 ((q_tu_ne (q_neT (xR h208 _ (q_neT (x238.1 h208 _ (x231.1 h208 _ (x222.1 h208 _ (x215.1 h208 _ T208).1).1).1).1 tt238 (by decide)) (x238.1 h208 _ (x231.1 h208 _ (x222.1 h208 _ (x215.1 h208 _ T208).1).1).1).1) SR (by decide))).trans (xR h208 _ (q_neT (x238.1 h208 _ (x231.1 h208 _ (x222.1 h208 _ (x215.1 h208 _ T208).1).1).1).1 tt238 (by decide)) (x238.1 h208 _ (x231.1 h208 _ (x222.1 h208 _ (x215.1 h208 _ T208).1).1).1).1)) (by decide)
    rcases j with _ | j
    · show q_v _ (q_f 10 37) (.ref h215); exact q_vr (k := 171) (n := 2) ff_10_37 ((q_tu_ne (q_neT (xR h215 _ (q_neT (x238.1 h215 _ (x231.1 h215 _ (x222.1 h215 _ T215).1).1).1 tt238 (by decide)) (x238.1 h215 _ (x231.1 h215 _ (x222.1 h215 _ T215).1).1).1) SR (by decide))).trans (xR h215 _ (q_neT (x238.1 h215 _ (x231.1 h215 _ (x222.1 h215 _ T215).1).1).1 tt238 (by decide)) (x238.1 h215 _ (x231.1 h215 _ (x222.1 h215 _ T215).1).1).1)) (by decide)
    rcases j with _ | j
    · show q_v _ (q_f 10 38) (.ref h222); exact q_vr (k := 172) (n := 2) ff_10_38 ((q_tu_ne (q_neT (xR h222 _ (q_neT (x238.1 h222 _ (x231.1 h222 _ T222).1).1 tt238 (by decide)) (x238.1 h222 _ (x231.1 h222 _ T222).1).1) SR (by decide))).trans (xR h222 _ (q_neT (x238.1 h222 _ (x231.1 h222 _ T222).1).1 tt238 (by decide)) (x238.1 h222 _ (x231.1 h222 _ T222).1).1)) (by decide)
    rcases j with _ | j
    · show q_v _ (q_f 10 39) (σ a0 39); rw [h0 39 (by decide)]; exact (show q_v _ _ (.int 0) from q_vi ff_10_39 rl_0 (by decide))
    rcases j with _ | j
    · show q_v _ (q_f 10 40) (σ a0 40); rw [h0 40 (by decide)]; exact (show q_v _ _ (.int 0) from q_vi ff_10_40 rl_0 (by decide))
    rcases j with _ | j
    · show q_v _ (q_f 10 41) (σ a0 41); rw [h0 41 (by decide)]; exact (show q_v _ _ (.int 0) from q_vi ff_10_41 rl_0 (by decide))
    rcases j with _ | j
    · show q_v _ (q_f 10 42) (σ a0 42); rw [h0 42 (by decide)]; exact (show q_v _ _ (.int 0) from q_vi ff_10_42 rl_0 (by decide))
    rcases j with _ | j
    · show q_v _ (q_f 10 43) (.ref h231); exact q_vr (k := 173) (n := 325) ff_10_43 ((q_tu_ne (q_neT (xR h231 _ (q_neT (x238.1 h231 _ T231).1 tt238 (by decide)) (x238.1 h231 _ T231).1) SR (by decide))).trans (xR h231 _ (q_neT (x238.1 h231 _ T231).1 tt238 (by decide)) (x238.1 h231 _ T231).1)) (by decide)
    rcases j with _ | j
    · show q_v _ (q_f 10 44) (.ref h238); exact q_vr (k := 174) (n := 4) ff_10_44 ((q_tu_ne (q_neT (xR h238 _ (q_neT T238 tt238 (by decide)) T238) SR (by decide))).trans (xR h238 _ (q_neT T238 tt238 (by decide)) T238)) (by decide)
    rcases j with _ | j
    · show q_v _ (q_f 10 45) (σ a0 45); rw [h0 45 (by decide)]; exact (show q_v _ _ (.int 0) from q_vi ff_10_45 rl_0 (by decide))
    exact absurd hj (by show ¬ _ < 46; omega)
  refine q_retype SR (by decide) ?_
  exact q_vret hG hE dX12_init_270 ⟨EX, ⟨⟨IR.made (by decide) SR HF, q_tu_new, fun b x hb hx => (q_tu_ne hb).trans (FR b x hx)⟩, (by rw [F266]; show σ a0 13 = _; rw [h0 13 (by decide)]; rfl), (by rw [F266]; show σ a0 45 = _; rw [h0 45 (by decide)]; rfl), FS, FS6, (by rw [F266]; show σ a0 4 = _; rw [h0 4 (by decide)]; rfl), h8, (by rw [F266]; rfl), p266.2.2.2.1, ZR, p266.2.2.2.2, FS118, FS4, FS3⟩⟩
