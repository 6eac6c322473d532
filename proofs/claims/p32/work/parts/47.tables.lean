/-! laid by wip/p2/build.py -/
theorem dX12_laysWear_0 : decode cX12_laysWear 0 = .ok (.iconst 0, 1) := by decide +kernel
theorem dX12_laysWear_1 : decode cX12_laysWear 1 = .ok (.istore_n 3, 1) := by decide +kernel
theorem dX12_laysWear_2 : decode cX12_laysWear 2 = .ok (.iload_n 3, 1) := by decide +kernel
theorem dX12_laysWear_3 : decode cX12_laysWear 3 = .ok (.bipush 64, 2) := by decide +kernel
theorem dX12_laysWear_5 : decode cX12_laysWear 5 = .ok (.if_icmp .gt 16, 3) := by decide +kernel
theorem dX12_laysWear_8 : decode cX12_laysWear 8 = .ok (.aload_n 0, 1) := by decide +kernel
theorem dX12_laysWear_9 : decode cX12_laysWear 9 = .ok (.getfield 92, 3) := by decide +kernel
theorem dX12_laysWear_12 : decode cX12_laysWear 12 = .ok (.iload_n 3, 1) := by decide +kernel
theorem dX12_laysWear_13 : decode cX12_laysWear 13 = .ok (.iconst 0, 1) := by decide +kernel
theorem dX12_laysWear_14 : decode cX12_laysWear 14 = .ok (.iastore, 1) := by decide +kernel
theorem dX12_laysWear_15 : decode cX12_laysWear 15 = .ok (.iinc 3 1, 3) := by decide +kernel
theorem dX12_laysWear_18 : decode cX12_laysWear 18 = .ok (.goto (-16), 3) := by decide +kernel
theorem dX12_laysWear_21 : decode cX12_laysWear 21 = .ok (.iconst 1, 1) := by decide +kernel
theorem dX12_laysWear_22 : decode cX12_laysWear 22 = .ok (.istore_n 3, 1) := by decide +kernel
theorem dX12_laysWear_23 : decode cX12_laysWear 23 = .ok (.iload_n 3, 1) := by decide +kernel
theorem dX12_laysWear_24 : decode cX12_laysWear 24 = .ok (.iload_n 1, 1) := by decide +kernel
theorem dX12_laysWear_25 : decode cX12_laysWear 25 = .ok (.if_icmp .gt 117, 3) := by decide +kernel
theorem dX12_laysWear_28 : decode cX12_laysWear 28 = .ok (.bipush 64, 2) := by decide +kernel
theorem dX12_laysWear_30 : decode cX12_laysWear 30 = .ok (.istore 4, 2) := by decide +kernel
theorem dX12_laysWear_32 : decode cX12_laysWear 32 = .ok (.iload 4, 2) := by decide +kernel
theorem dX12_laysWear_34 : decode cX12_laysWear 34 = .ok (.ifCond .lt 102, 3) := by decide +kernel
theorem dX12_laysWear_37 : decode cX12_laysWear 37 = .ok (.iload 4, 2) := by decide +kernel
theorem dX12_laysWear_39 : decode cX12_laysWear 39 = .ok (.bipush 64, 2) := by decide +kernel
theorem dX12_laysWear_41 : decode cX12_laysWear 41 = .ok (.if_icmp .ge 15, 3) := by decide +kernel
theorem dX12_laysWear_44 : decode cX12_laysWear 44 = .ok (.aload_n 0, 1) := by decide +kernel
theorem dX12_laysWear_45 : decode cX12_laysWear 45 = .ok (.iload_n 3, 1) := by decide +kernel
theorem dX12_laysWear_46 : decode cX12_laysWear 46 = .ok (.iload 4, 2) := by decide +kernel
theorem dX12_laysWear_48 : decode cX12_laysWear 48 = .ok (.iconst 1, 1) := by decide +kernel
theorem dX12_laysWear_49 : decode cX12_laysWear 49 = .ok (.iadd, 1) := by decide +kernel
theorem dX12_laysWear_50 : decode cX12_laysWear 50 = .ok (.invokevirtual 414, 3) := by decide +kernel
theorem dX12_laysWear_53 : decode cX12_laysWear 53 = .ok (.goto 6, 3) := by decide +kernel
theorem dX12_laysWear_56 : decode cX12_laysWear 56 = .ok (.ldc_w 417, 3) := by decide +kernel
theorem dX12_laysWear_59 : decode cX12_laysWear 59 = .ok (.istore 5, 2) := by decide +kernel
theorem dX12_laysWear_61 : decode cX12_laysWear 61 = .ok (.iload 4, 2) := by decide +kernel
theorem dX12_laysWear_63 : decode cX12_laysWear 63 = .ok (.iload_n 2, 1) := by decide +kernel
theorem dX12_laysWear_64 : decode cX12_laysWear 64 = .ok (.iadd, 1) := by decide +kernel
theorem dX12_laysWear_65 : decode cX12_laysWear 65 = .ok (.aload_n 0, 1) := by decide +kernel
theorem dX12_laysWear_66 : decode cX12_laysWear 66 = .ok (.getfield 7, 3) := by decide +kernel
theorem dX12_laysWear_69 : decode cX12_laysWear 69 = .ok (.sipush 512, 3) := by decide +kernel
theorem dX12_laysWear_72 : decode cX12_laysWear 72 = .ok (.iaload, 1) := by decide +kernel
theorem dX12_laysWear_73 : decode cX12_laysWear 73 = .ok (.if_icmp .gt 43, 3) := by decide +kernel
theorem dX12_laysWear_76 : decode cX12_laysWear 76 = .ok (.aload_n 0, 1) := by decide +kernel
theorem dX12_laysWear_77 : decode cX12_laysWear 77 = .ok (.iload_n 3, 1) := by decide +kernel
theorem dX12_laysWear_78 : decode cX12_laysWear 78 = .ok (.iconst 1, 1) := by decide +kernel
theorem dX12_laysWear_79 : decode cX12_laysWear 79 = .ok (.isub, 1) := by decide +kernel
theorem dX12_laysWear_80 : decode cX12_laysWear 80 = .ok (.iload 4, 2) := by decide +kernel
theorem dX12_laysWear_82 : decode cX12_laysWear 82 = .ok (.iload_n 2, 1) := by decide +kernel
theorem dX12_laysWear_83 : decode cX12_laysWear 83 = .ok (.iadd, 1) := by decide +kernel
theorem dX12_laysWear_84 : decode cX12_laysWear 84 = .ok (.invokevirtual 414, 3) := by decide +kernel
theorem dX12_laysWear_87 : decode cX12_laysWear 87 = .ok (.ifCond .lt 29, 3) := by decide +kernel
theorem dX12_laysWear_90 : decode cX12_laysWear 90 = .ok (.iload 5, 2) := by decide +kernel
theorem dX12_laysWear_92 : decode cX12_laysWear 92 = .ok (.aload_n 0, 1) := by decide +kernel
theorem dX12_laysWear_93 : decode cX12_laysWear 93 = .ok (.iload 4, 2) := by decide +kernel
theorem dX12_laysWear_95 : decode cX12_laysWear 95 = .ok (.iload_n 2, 1) := by decide +kernel
theorem dX12_laysWear_96 : decode cX12_laysWear 96 = .ok (.invokevirtual 418, 3) := by decide +kernel
theorem dX12_laysWear_99 : decode cX12_laysWear 99 = .ok (.aload_n 0, 1) := by decide +kernel
theorem dX12_laysWear_100 : decode cX12_laysWear 100 = .ok (.iload_n 3, 1) := by decide +kernel
theorem dX12_laysWear_101 : decode cX12_laysWear 101 = .ok (.iconst 1, 1) := by decide +kernel
theorem dX12_laysWear_102 : decode cX12_laysWear 102 = .ok (.isub, 1) := by decide +kernel
theorem dX12_laysWear_103 : decode cX12_laysWear 103 = .ok (.iload 4, 2) := by decide +kernel
theorem dX12_laysWear_105 : decode cX12_laysWear 105 = .ok (.iload_n 2, 1) := by decide +kernel
theorem dX12_laysWear_106 : decode cX12_laysWear 106 = .ok (.iadd, 1) := by decide +kernel
theorem dX12_laysWear_107 : decode cX12_laysWear 107 = .ok (.invokevirtual 414, 3) := by decide +kernel
theorem dX12_laysWear_110 : decode cX12_laysWear 110 = .ok (.iadd, 1) := by decide +kernel
theorem dX12_laysWear_111 : decode cX12_laysWear 111 = .ok (.invokestatic 260, 3) := by decide +kernel
theorem dX12_laysWear_114 : decode cX12_laysWear 114 = .ok (.istore 5, 2) := by decide +kernel
theorem dX12_laysWear_116 : decode cX12_laysWear 116 = .ok (.aload_n 0, 1) := by decide +kernel
theorem dX12_laysWear_117 : decode cX12_laysWear 117 = .ok (.getfield 92, 3) := by decide +kernel
theorem dX12_laysWear_120 : decode cX12_laysWear 120 = .ok (.bipush 65, 2) := by decide +kernel
theorem dX12_laysWear_122 : decode cX12_laysWear 122 = .ok (.iload_n 3, 1) := by decide +kernel
theorem dX12_laysWear_123 : decode cX12_laysWear 123 = .ok (.imul, 1) := by decide +kernel
theorem dX12_laysWear_124 : decode cX12_laysWear 124 = .ok (.iload 4, 2) := by decide +kernel
theorem dX12_laysWear_126 : decode cX12_laysWear 126 = .ok (.iadd, 1) := by decide +kernel
theorem dX12_laysWear_127 : decode cX12_laysWear 127 = .ok (.iload 5, 2) := by decide +kernel
theorem dX12_laysWear_129 : decode cX12_laysWear 129 = .ok (.iastore, 1) := by decide +kernel
theorem dX12_laysWear_130 : decode cX12_laysWear 130 = .ok (.iinc 4 (-1), 3) := by decide +kernel
theorem dX12_laysWear_133 : decode cX12_laysWear 133 = .ok (.goto (-101), 3) := by decide +kernel
theorem dX12_laysWear_136 : decode cX12_laysWear 136 = .ok (.iinc 3 1, 3) := by decide +kernel
theorem dX12_laysWear_139 : decode cX12_laysWear 139 = .ok (.goto (-116), 3) := by decide +kernel
theorem dX12_laysWear_142 : decode cX12_laysWear 142 = .ok (.iconst 0, 1) := by decide +kernel
theorem dX12_laysWear_143 : decode cX12_laysWear 143 = .ok (.istore_n 3, 1) := by decide +kernel
theorem dX12_laysWear_144 : decode cX12_laysWear 144 = .ok (.iload_n 1, 1) := by decide +kernel
theorem dX12_laysWear_145 : decode cX12_laysWear 145 = .ok (.istore 4, 2) := by decide +kernel
theorem dX12_laysWear_147 : decode cX12_laysWear 147 = .ok (.iload 4, 2) := by decide +kernel
theorem dX12_laysWear_149 : decode cX12_laysWear 149 = .ok (.ifCond .le 106, 3) := by decide +kernel
theorem dX12_laysWear_152 : decode cX12_laysWear 152 = .ok (.aload_n 0, 1) := by decide +kernel
theorem dX12_laysWear_153 : decode cX12_laysWear 153 = .ok (.iload_n 1, 1) := by decide +kernel
theorem dX12_laysWear_154 : decode cX12_laysWear 154 = .ok (.iconst 0, 1) := by decide +kernel
theorem dX12_laysWear_155 : decode cX12_laysWear 155 = .ok (.invokevirtual 414, 3) := by decide +kernel
theorem dX12_laysWear_158 : decode cX12_laysWear 158 = .ok (.ifCond .lt 97, 3) := by decide +kernel
theorem dX12_laysWear_161 : decode cX12_laysWear 161 = .ok (.iload_n 3, 1) := by decide +kernel
theorem dX12_laysWear_162 : decode cX12_laysWear 162 = .ok (.istore 5, 2) := by decide +kernel
theorem dX12_laysWear_164 : decode cX12_laysWear 164 = .ok (.iload 5, 2) := by decide +kernel
theorem dX12_laysWear_166 : decode cX12_laysWear 166 = .ok (.iload_n 2, 1) := by decide +kernel
theorem dX12_laysWear_167 : decode cX12_laysWear 167 = .ok (.iadd, 1) := by decide +kernel
theorem dX12_laysWear_168 : decode cX12_laysWear 168 = .ok (.aload_n 0, 1) := by decide +kernel
theorem dX12_laysWear_169 : decode cX12_laysWear 169 = .ok (.getfield 7, 3) := by decide +kernel
theorem dX12_laysWear_172 : decode cX12_laysWear 172 = .ok (.sipush 512, 3) := by decide +kernel
theorem dX12_laysWear_175 : decode cX12_laysWear 175 = .ok (.iaload, 1) := by decide +kernel
theorem dX12_laysWear_176 : decode cX12_laysWear 176 = .ok (.if_icmp .gt 48, 3) := by decide +kernel
theorem dX12_laysWear_179 : decode cX12_laysWear 179 = .ok (.aload_n 0, 1) := by decide +kernel
theorem dX12_laysWear_180 : decode cX12_laysWear 180 = .ok (.iload 4, 2) := by decide +kernel
theorem dX12_laysWear_182 : decode cX12_laysWear 182 = .ok (.iconst 1, 1) := by decide +kernel
theorem dX12_laysWear_183 : decode cX12_laysWear 183 = .ok (.isub, 1) := by decide +kernel
theorem dX12_laysWear_184 : decode cX12_laysWear 184 = .ok (.iload 5, 2) := by decide +kernel
theorem dX12_laysWear_186 : decode cX12_laysWear 186 = .ok (.iload_n 2, 1) := by decide +kernel
theorem dX12_laysWear_187 : decode cX12_laysWear 187 = .ok (.iadd, 1) := by decide +kernel
theorem dX12_laysWear_188 : decode cX12_laysWear 188 = .ok (.invokevirtual 414, 3) := by decide +kernel
theorem dX12_laysWear_191 : decode cX12_laysWear 191 = .ok (.ifCond .lt 33, 3) := by decide +kernel
theorem dX12_laysWear_194 : decode cX12_laysWear 194 = .ok (.aload_n 0, 1) := by decide +kernel
theorem dX12_laysWear_195 : decode cX12_laysWear 195 = .ok (.iload 5, 2) := by decide +kernel
theorem dX12_laysWear_197 : decode cX12_laysWear 197 = .ok (.iload_n 2, 1) := by decide +kernel
theorem dX12_laysWear_198 : decode cX12_laysWear 198 = .ok (.invokevirtual 418, 3) := by decide +kernel
theorem dX12_laysWear_201 : decode cX12_laysWear 201 = .ok (.aload_n 0, 1) := by decide +kernel
theorem dX12_laysWear_202 : decode cX12_laysWear 202 = .ok (.iload 4, 2) := by decide +kernel
theorem dX12_laysWear_204 : decode cX12_laysWear 204 = .ok (.iconst 1, 1) := by decide +kernel
theorem dX12_laysWear_205 : decode cX12_laysWear 205 = .ok (.isub, 1) := by decide +kernel
theorem dX12_laysWear_206 : decode cX12_laysWear 206 = .ok (.iload 5, 2) := by decide +kernel
theorem dX12_laysWear_208 : decode cX12_laysWear 208 = .ok (.iload_n 2, 1) := by decide +kernel
theorem dX12_laysWear_209 : decode cX12_laysWear 209 = .ok (.iadd, 1) := by decide +kernel
theorem dX12_laysWear_210 : decode cX12_laysWear 210 = .ok (.invokevirtual 414, 3) := by decide +kernel
theorem dX12_laysWear_213 : decode cX12_laysWear 213 = .ok (.iadd, 1) := by decide +kernel
theorem dX12_laysWear_214 : decode cX12_laysWear 214 = .ok (.aload_n 0, 1) := by decide +kernel
theorem dX12_laysWear_215 : decode cX12_laysWear 215 = .ok (.iload 4, 2) := by decide +kernel
theorem dX12_laysWear_217 : decode cX12_laysWear 217 = .ok (.iload_n 3, 1) := by decide +kernel
theorem dX12_laysWear_218 : decode cX12_laysWear 218 = .ok (.invokevirtual 414, 3) := by decide +kernel
theorem dX12_laysWear_221 : decode cX12_laysWear 221 = .ok (.if_icmp .eq 12, 3) := by decide +kernel
theorem dX12_laysWear_224 : decode cX12_laysWear 224 = .ok (.iload 5, 2) := by decide +kernel
theorem dX12_laysWear_226 : decode cX12_laysWear 226 = .ok (.iconst 1, 1) := by decide +kernel
theorem dX12_laysWear_227 : decode cX12_laysWear 227 = .ok (.iadd, 1) := by decide +kernel
theorem dX12_laysWear_228 : decode cX12_laysWear 228 = .ok (.istore 5, 2) := by decide +kernel
theorem dX12_laysWear_230 : decode cX12_laysWear 230 = .ok (.goto (-66), 3) := by decide +kernel
theorem dX12_laysWear_233 : decode cX12_laysWear 233 = .ok (.aload_n 0, 1) := by decide +kernel
theorem dX12_laysWear_234 : decode cX12_laysWear 234 = .ok (.getfield 95, 3) := by decide +kernel
theorem dX12_laysWear_237 : decode cX12_laysWear 237 = .ok (.iload_n 1, 1) := by decide +kernel
theorem dX12_laysWear_238 : decode cX12_laysWear 238 = .ok (.iload 4, 2) := by decide +kernel
theorem dX12_laysWear_240 : decode cX12_laysWear 240 = .ok (.isub, 1) := by decide +kernel
theorem dX12_laysWear_241 : decode cX12_laysWear 241 = .ok (.iload 5, 2) := by decide +kernel
theorem dX12_laysWear_243 : decode cX12_laysWear 243 = .ok (.iastore, 1) := by decide +kernel
theorem dX12_laysWear_244 : decode cX12_laysWear 244 = .ok (.iload 5, 2) := by decide +kernel
theorem dX12_laysWear_246 : decode cX12_laysWear 246 = .ok (.iload_n 2, 1) := by decide +kernel
theorem dX12_laysWear_247 : decode cX12_laysWear 247 = .ok (.iadd, 1) := by decide +kernel
theorem dX12_laysWear_248 : decode cX12_laysWear 248 = .ok (.istore_n 3, 1) := by decide +kernel
theorem dX12_laysWear_249 : decode cX12_laysWear 249 = .ok (.iinc 4 (-1), 3) := by decide +kernel
theorem dX12_laysWear_252 : decode cX12_laysWear 252 = .ok (.goto (-105), 3) := by decide +kernel
theorem dX12_laysWear_255 : decode cX12_laysWear 255 = .ok (.return_, 1) := by decide +kernel
def md_X12_laysWear : List (Nat × Nat) := [(173, 0), (174, 0)]
set_option maxRecDepth 100000 in
set_option maxHeartbeats 4000000 in
theorem c_X12_laysWear {l : Launch} {D : q_D} (τ : q_T) (σ : q_V) (a0 : Nat) (x1 : Int32) (x2 : Int32) (hI : q_I τ σ) (tA0 : τ a0 = some (10, 1)) (rA1 : q_r x1 1 4) (rA2 : q_r x2 1 16) : q_Cv l D yX12_laysWear cX12_laysWear 6 none 1 24 τ σ [.ref a0, .int x1, .int x2] (fun σ1 => q_S md_X12_laysWear τ σ σ1) := by
  refine q_metv rfl (Nat.le_of_ble_eq_true rfl) (fun X hG hE => ?_)
  show q_O X 0 0 τ σ 0 [(0, .ref a0), (1, .int x1), (2, .int x2)] []
  have hS0 : q_S md_X12_laysWear τ σ σ := q_S.rf hI
  obtain ⟨q_1b, q_1f, q_1T⟩ := (hI a0 10 1 tA0 0 (by decide)).ref (k := 100) (n := 549) rfl
  obtain ⟨q_2v, q_2f, q_2r⟩ := (hI q_1b 100 549 q_1T 512 (by decide)).int (lo := 8) (hi := 64) rfl
  have q_2g : σ q_1b (512 : Int32).toInt.toNat = .int q_2v := q_2f
  obtain ⟨q_3b, q_3f, q_3T⟩ := (hI a0 10 1 tA0 43 (by decide)).ref (k := 173) (n := 325) rfl
  obtain ⟨q_4b, q_4f, q_4T⟩ := (hI a0 10 1 tA0 44 (by decide)).ref (k := 174) (n := 4) rfl
  refine q_iconst (pc := 0) hG dX12_laysWear_0 ki_0 ?_
  refine q_istore_n (pc := 1) [(3, .int 0), (0, .ref a0), (1, .int x1), (2, .int x2)] hG dX12_laysWear_1 (by decide) rfl ?_
  have J2 : ∀ (n2 : Nat) (p2_3 : Int32) (σ2 : q_V), (q_r p2_3 0 65) → (q_S md_X12_laysWear τ σ σ2) → ((65 - p2_3.toInt).toNat < n2) → q_O X 0 0 τ σ2 2 [(0, .ref a0), (1, .int x1), (2, .int x2), (3, .int p2_3)] [] := by
    intro n2
    induction n2 with
    | zero => intro p2_3 σ2 r2_3 hS2 hm2; exact absurd hm2 (Nat.not_lt_zero _)
    | succ n2 ih2 =>
      intro p2_3 σ2 r2_3 hS2 hm2
      refine q_iload_n (pc := 2) hG dX12_laysWear_2 3 rfl ?_
      refine q_bipush (pc := 3) hG dX12_laysWear_3 kb_64 ?_
      refine q_icmp_gt (pc := 5) hG 21 dX12_laysWear_5 rfl ?_ ?_
      · intro c5
        refine q_iconst (pc := 21) hG dX12_laysWear_21 ki_1 ?_
        refine q_istore_n (pc := 22) [(3, .int 1), (0, .ref a0), (1, .int x1), (2, .int x2)] hG dX12_laysWear_22 (by decide) rfl ?_
        have J23 : ∀ (n23 : Nat) (p23_3 : Int32) (σ23 : q_V), (q_r p23_3 1 5) → (q_S md_X12_laysWear τ σ σ23) → (q_Et (σ q_1b) (σ23 q_3b) q_2v.toInt x2.toInt p23_3.toInt 64) → (p23_3.toInt ≤ x1.toInt + 1) → ((5 - p23_3.toInt).toNat < n23) → q_O X 0 0 τ σ23 23 [(0, .ref a0), (1, .int x1), (2, .int x2), (3, .int p23_3)] [] := by
          intro n23
          induction n23 with
          | zero => intro p23_3 σ23 r23_3 hS23 iE23 iK23 hm23; exact absurd hm23 (Nat.not_lt_zero _)
          | succ n23 ih23 =>
            intro p23_3 σ23 r23_3 hS23 iE23 iK23 hm23
            refine q_iload_n (pc := 23) hG dX12_laysWear_23 3 rfl ?_
            refine q_iload_n (pc := 24) hG dX12_laysWear_24 1 rfl ?_
            refine q_icmp_gt (pc := 25) hG 142 dX12_laysWear_25 rfl ?_ ?_
            · intro c25
              refine q_iconst (pc := 142) hG dX12_laysWear_142 ki_0 ?_
              refine q_istore_n (pc := 143) [(3, .int 0), (0, .ref a0), (1, .int x1), (2, .int x2)] hG dX12_laysWear_143 (by decide) rfl ?_
              refine q_iload_n (pc := 144) hG dX12_laysWear_144 2 rfl ?_
              refine q_istore (pc := 145) [(4, .int x1), (3, .int 0), (0, .ref a0), (1, .int x1), (2, .int x2)] hG dX12_laysWear_145 (by decide) rfl ?_
              have J147 : ∀ (n147 : Nat) (p147_3 : Int32) (p147_4 : Int32) (σ147 : q_V), (q_r p147_3 0 64) → (q_r p147_4 0 4) → (q_S md_X12_laysWear τ σ σ147) → (q_Et (σ q_1b) (σ147 q_3b) q_2v.toInt x2.toInt (x1.toInt + 1) 64 ∧ (0 ≤ q_iv (σ147 q_3b) (65 * x1.toInt + 0) → 0 ≤ q_iv (σ147 q_3b) (65 * p147_4.toInt + p147_3.toInt)) ∧ p147_4.toInt ≤ x1.toInt) → ((p147_4.toInt - 0).toNat < n147) → q_O X 0 0 τ σ147 147 [(0, .ref a0), (1, .int x1), (2, .int x2), (3, .int p147_3), (4, .int p147_4)] [] := by
                intro n147
                induction n147 with
                | zero => intro p147_3 p147_4 σ147 r147_3 r147_4 hS147 iE147 hm147; exact absurd hm147 (Nat.not_lt_zero _)
                | succ n147 ih147 =>
                  intro p147_3 p147_4 σ147 r147_3 r147_4 hS147 iE147 hm147
                  refine q_iload (pc := 147) hG dX12_laysWear_147 4 rfl ?_
                  refine q_if_le (pc := 149) hG 255 dX12_laysWear_149 rfl ?_ ?_
                  · intro c149
                    exact q_vrt hG hE dX12_laysWear_255 hS147
                  intro c149
                  refine q_aload_n (pc := 152) hG dX12_laysWear_152 0 rfl ?_
                  refine q_iload_n (pc := 153) hG dX12_laysWear_153 1 rfl ?_
                  refine q_iconst (pc := 154) hG dX12_laysWear_154 ki_0 ?_
                  refine q_pV (pc := 155) [.int x1, .int 0] [] hG (c_X12_wearFrom τ σ147 a0 x1 0 hS147.1 tA0 (q_r.mono rA1 (by decide)) (q_r.mono rl_0 (by decide))) my_X12_wearFrom mv_X12_wearFrom w1190 dX12_laysWear_155 tA0 (by decide) rfl rfl (Nat.le_of_ble_eq_true rfl) (by decide) (fun v155 p155 => ?_)
                  refine q_if_lt (pc := 158) hG 255 dX12_laysWear_158 rfl ?_ ?_
                  · intro c158
                    exact q_vrt hG hE dX12_laysWear_255 hS147
                  intro c158
                  refine q_iload_n (pc := 161) hG dX12_laysWear_161 3 rfl ?_
                  have r_5 := q_zge p155.1 c158
                  have c155 : 0 ≤ q_iv (σ147 q_3b) (65 * x1.toInt + 0) := by have q := (p155.2 q_3b (hS147.same tA0 rfl q_3f)); rw [tl_0] at q; unfold q_iv; rw [q]; exact (by have o0 := c158; have o1 := r_5; unfold q_r at o1; omega)
                  have r_6 := q_zgt r147_4 c149
                  have r_7 := q_rgt r23_3 rA1 c25 2 (by decide)
                  obtain ⟨js, j1, j2, j3, j4⟩ := iE147.1 p147_4.toInt p147_3.toInt (by have o0 := iE147.2.2; have o1 := c149; have o2 := iK23; have o3 := c25; have o4 := r_6; have o5 := r_7; have o6 := rA1; unfold q_r at o4 o5 o6; omega) (Or.inl (by have o0 := iK23; have o1 := c25; have o2 := iE147.2.2; have o3 := c149; have o4 := r_6; have o5 := r_7; have o6 := rA1; unfold q_r at o4 o5 o6; omega)) (by have o0 := r147_3; unfold q_r at o0; omega) (by have o0 := r147_3; unfold q_r at o0; omega) (iE147.2.1 c155)
                  refine q_istore (pc := 162) [(5, .int p147_3), (0, .ref a0), (1, .int x1), (2, .int x2), (3, .int p147_3), (4, .int p147_4)] hG dX12_laysWear_162 (by decide) rfl ?_
                  have J164 : ∀ (n164 : Nat) (p164_5 : Int32), (q_r p164_5 0 64) → (p164_5.toInt ≤ js) → ((js - p164_5.toInt).toNat < n164) → q_O X 0 0 τ σ147 164 [(0, .ref a0), (1, .int x1), (2, .int x2), (3, .int p147_3), (4, .int p147_4), (5, .int p164_5)] [] := by
                    intro n164
                    induction n164 with
                    | zero => intro p164_5 r164_5 iJ164 hm164; exact absurd hm164 (Nat.not_lt_zero _)
                    | succ n164 ih164 =>
                      intro p164_5 r164_5 iJ164 hm164
                      refine q_iload (pc := 164) hG dX12_laysWear_164 5 rfl ?_
                      refine q_iload_n (pc := 166) hG dX12_laysWear_166 2 rfl ?_
                      refine q_iadd (pc := 167) hG dX12_laysWear_167 (fun v167 e167 => ?_)
                      refine q_aload_n (pc := 168) hG dX12_laysWear_168 0 rfl ?_
                      refine q_getV (pc := 169) (v := .ref q_1b) hG fl_X12_7 dX12_laysWear_169 tA0 (hS147.same tA0 rfl q_1f) ?_
                      refine q_sipush (pc := 172) hG dX12_laysWear_172 ks_512 ?_
                      refine q_ialdV (pc := 175) (v := .int q_2v) hG dX12_laysWear_175 q_1T (by decide) (by decide) (q_ix rl_512 (by decide)) (hS147.same q_1T rfl q_2g) ?_
                      have J224 : (p164_5.toInt < js) → q_O X 0 0 τ σ147 224 [(0, .ref a0), (1, .int x1), (2, .int x2), (3, .int p147_3), (4, .int p147_4), (5, .int p164_5)] [] := by
                        intro iJ224
                        refine q_iload (pc := 224) hG dX12_laysWear_224 5 rfl ?_
                        refine q_iconst (pc := 226) hG dX12_laysWear_226 ki_1 ?_
                        refine q_iadd (pc := 227) hG dX12_laysWear_227 (fun v227 e227 => ?_)
                        refine q_istore (pc := 228) [(5, .int v227), (0, .ref a0), (1, .int x1), (2, .int x2), (3, .int p147_3), (4, .int p147_4)] hG dX12_laysWear_228 (by decide) rfl ?_
                        refine q_goto (pc := 230) 164 hG dX12_laysWear_230 rfl ?_
                        refine q_lv [1, 2, 3, 4, 5, 0] rfl ?_
                        have r_8 := (q_addN (lo := 1) (hi := 80) e167 r164_5 rA2 (by decide)).2
                        have r_9 := (q_addN (lo := 1) (hi := 65) e227 r164_5 rl_1 (by decide)).2
                        exact ih164 v227 (show q_r v227 0 64 from ⟨(by have o0 := (q_addN (lo := 1) (hi := 65) e227 r164_5 rl_1 (by decide)).1; have o1 := iJ164; have o2 := (q_addN (lo := 1) (hi := 80) e167 r164_5 rA2 (by decide)).1; have o3 := iJ224; have o4 := j1; have o5 := j2; have o6 := r147_3; have o7 := r164_5; have o8 := q_2r; have o9 := r_8; have o10 := r_9; have o11 := rA2; have l12 := tl_1; unfold q_r at o6 o7 o8 o9 o10 o11; omega), (by have o0 := (q_addN (lo := 1) (hi := 65) e227 r164_5 rl_1 (by decide)).1; have o1 := iJ164; have o2 := (q_addN (lo := 1) (hi := 80) e167 r164_5 rA2 (by decide)).1; have o3 := iJ224; have o4 := j1; have o5 := j2; have o6 := r147_3; have o7 := r164_5; have o8 := q_2r; have o9 := r_8; have o10 := r_9; have o11 := rA2; have l12 := tl_1; unfold q_r at o6 o7 o8 o9 o10 o11; omega)⟩) (by have o0 := j1; have o1 := j2; have o2 := iJ164; have o3 := (q_addN (lo := 1) (hi := 80) e167 r164_5 rA2 (by decide)).1; have o4 := iJ224; have o5 := (q_addN (lo := 1) (hi := 65) e227 r164_5 rl_1 (by decide)).1; have o6 := r147_3; have o7 := r164_5; have o8 := q_2r; have o9 := r_8; have o10 := r_9; have o11 := rA2; have l12 := tl_1; unfold q_r at o6 o7 o8 o9 o10 o11; omega) (by have o0 := j1; have o1 := j2; have o2 := iJ164; have o3 := (q_addN (lo := 1) (hi := 80) e167 r164_5 rA2 (by decide)).1; have o4 := iJ224; have o5 := (q_addN (lo := 1) (hi := 65) e227 r164_5 rl_1 (by decide)).1; have o6 := r147_3; have o7 := r164_5; have o8 := q_2r; have o9 := r_8; have o10 := r_9; have o11 := rA2; have l12 := tl_1; have o13 := hm164; unfold q_r at o6 o7 o8 o9 o10 o11; omega)
                      refine q_icmp_gt (pc := 176) hG 224 dX12_laysWear_176 rfl ?_ ?_
                      · intro c176
                        have r_10 := (q_addN (lo := 1) (hi := 80) e167 r164_5 rA2 (by decide)).2
                        refine q_lv [0, 1, 2, 3, 4, 5] rfl ?_
                        have r_11 := q_rgt r_10 q_2r c176 9 (by decide)
                        exact J224 (by have o0 := j1; have o1 := j2; have o2 := iJ164; have o3 := (q_addN (lo := 1) (hi := 80) e167 r164_5 rA2 (by decide)).1; have o4 := c176; have o5 := r147_3; have o6 := r164_5; have o7 := q_2r; have o8 := r_11; have o9 := rA2; unfold q_r at o5 o6 o7 o8 o9; omega)
                      intro c176
                      have r_12 := (q_addN (lo := 1) (hi := 80) e167 r164_5 rA2 (by decide)).2
                      refine q_aload_n (pc := 179) hG dX12_laysWear_179 0 rfl ?_
                      refine q_iload (pc := 180) hG dX12_laysWear_180 4 rfl ?_
                      refine q_iconst (pc := 182) hG dX12_laysWear_182 ki_1 ?_
                      refine q_isub (pc := 183) hG dX12_laysWear_183 (fun v183 e183 => ?_)
                      refine q_iload (pc := 184) hG dX12_laysWear_184 5 rfl ?_
                      refine q_iload_n (pc := 186) hG dX12_laysWear_186 2 rfl ?_
                      refine q_iadd (pc := 187) hG dX12_laysWear_187 (fun v187 e187 => ?_)
                      rw [e187.trans e167.symm]
                      have r_13 := (q_subN (lo := 0) (hi := 3) e183 r_6 rl_1 (by decide)).2
                      have r_14 := q_rle r_12 q_2r c176
                      refine q_pV (pc := 188) [.int v183, .int v167] [] hG (c_X12_wearFrom τ σ147 a0 v183 v167 hS147.1 tA0 (q_r.mono r_13 (by decide)) (q_r.mono r_14 (by decide))) my_X12_wearFrom mv_X12_wearFrom w1190 dX12_laysWear_188 tA0 (by decide) rfl rfl (Nat.le_of_ble_eq_true rfl) (by decide) (fun v188 p188 => ?_)
                      refine q_if_lt (pc := 191) hG 224 dX12_laysWear_191 rfl ?_ ?_
                      · intro c191
                        refine q_lv [0, 1, 2, 3, 4, 5] rfl ?_
                        have r_15 := q_zlt p188.1 c191
                        exact J224 ((Int.lt_or_eq_of_le iJ164).elim id (fun h => absurd j3 (by rw [← h]; unfold q_iv; rw [(show q_i32 (σ147 q_3b (65 * (p147_4.toInt - 1) + (p164_5.toInt + x2.toInt)).toNat) = v188 from (by rw [← show v183.toInt = p147_4.toInt - 1 from (by have o0 := iE147.2.2; have o1 := c149; have o2 := (q_subN (lo := 0) (hi := 3) e183 r_6 rl_1 (by decide)).1; have o3 := iK23; have o4 := c25; have o5 := r_6; have o6 := r_7; have o7 := r_13; have o8 := rA1; have l9 := tl_1; unfold q_r at o5 o6 o7 o8; omega), ← show v167.toInt = p164_5.toInt + x2.toInt from (by have o0 := j2; have o1 := iJ164; have o2 := (q_addN (lo := 1) (hi := 80) e167 r164_5 rA2 (by decide)).1; have o3 := c176; have o4 := j1; have o5 := r147_3; have o6 := r164_5; have o7 := q_2r; have o8 := r_14; have o9 := rA2; unfold q_r at o5 o6 o7 o8 o9; omega)]; exact (p188.2 q_3b (hS147.same tA0 rfl q_3f))))]; exact (by have o0 := c191; have o1 := r_15; unfold q_r at o1; omega))))
                      intro c191
                      refine q_aload_n (pc := 194) hG dX12_laysWear_194 0 rfl ?_
                      refine q_iload (pc := 195) hG dX12_laysWear_195 5 rfl ?_
                      refine q_iload_n (pc := 197) hG dX12_laysWear_197 2 rfl ?_
                      refine q_pV (pc := 198) [.int p164_5, .int x2] [] hG (c_X12_wearIn τ σ147 a0 p164_5 x2 hS147.1 tA0 r164_5 rA2) my_X12_wearIn mv_X12_wearIn w1194 dX12_laysWear_198 tA0 (by decide) rfl rfl (Nat.le_of_ble_eq_true rfl) (by decide) (fun v198 p198 => ?_)
                      have ev198 := (p198.2 q_1b (hS147.same tA0 rfl q_1f))
                      rw [((funext fun j => hS147.2.arr q_1T (by decide) rfl) : σ147 q_1b = σ q_1b)] at ev198
                      refine q_aload_n (pc := 201) hG dX12_laysWear_201 0 rfl ?_
                      refine q_iload (pc := 202) hG dX12_laysWear_202 4 rfl ?_
                      refine q_iconst (pc := 204) hG dX12_laysWear_204 ki_1 ?_
                      refine q_isub (pc := 205) hG dX12_laysWear_205 (fun v205 e205 => ?_)
                      rw [e205.trans e183.symm]
                      refine q_iload (pc := 206) hG dX12_laysWear_206 5 rfl ?_
                      refine q_iload_n (pc := 208) hG dX12_laysWear_208 2 rfl ?_
                      refine q_iadd (pc := 209) hG dX12_laysWear_209 (fun v209 e209 => ?_)
                      rw [e209.trans e167.symm]
                      refine q_pV (pc := 210) [.int v183, .int v167] [.int v198] hG (c_X12_wearFrom τ σ147 a0 v183 v167 hS147.1 tA0 (q_r.mono r_13 (by decide)) (q_r.mono r_14 (by decide))) my_X12_wearFrom mv_X12_wearFrom w1190 dX12_laysWear_210 tA0 (by decide) rfl rfl (Nat.le_of_ble_eq_true rfl) (by decide) (fun v210 p210 => ?_)
                      refine q_iadd (pc := 213) hG dX12_laysWear_213 (fun v213 e213 => ?_)
                      refine q_aload_n (pc := 214) hG dX12_laysWear_214 0 rfl ?_
                      refine q_iload (pc := 215) hG dX12_laysWear_215 4 rfl ?_
                      refine q_iload_n (pc := 217) hG dX12_laysWear_217 3 rfl ?_
                      refine q_pV (pc := 218) [.int p147_4, .int p147_3] [.int v213] hG (c_X12_wearFrom τ σ147 a0 p147_4 p147_3 hS147.1 tA0 (q_r.mono r_6 (by decide)) r147_3) my_X12_wearFrom mv_X12_wearFrom w1190 dX12_laysWear_218 tA0 (by decide) rfl rfl (Nat.le_of_ble_eq_true rfl) (by decide) (fun v218 p218 => ?_)
                      refine q_icmp_eq (pc := 221) hG 233 dX12_laysWear_221 rfl ?_ ?_
                      · intro c221
                        refine q_aload_n (pc := 233) hG dX12_laysWear_233 0 rfl ?_
                        refine q_getV (pc := 234) (v := .ref q_4b) hG fl_X12_95 dX12_laysWear_234 tA0 (hS147.same tA0 rfl q_4f) ?_
                        refine q_iload_n (pc := 237) hG dX12_laysWear_237 1 rfl ?_
                        refine q_iload (pc := 238) hG dX12_laysWear_238 4 rfl ?_
                        refine q_isub (pc := 240) hG dX12_laysWear_240 (fun v240 e240 => ?_)
                        refine q_iload (pc := 241) hG dX12_laysWear_241 5 rfl ?_
                        have r_16 := (q_subN (lo := (-3)) (hi := 3) e240 rA1 r_6 (by decide)).2
                        refine q_iast (pc := 243) hG dX12_laysWear_243 hS147 ai_174 q_4T (by have o0 := (q_subN (lo := (-3)) (hi := 3) e240 rA1 r_6 (by decide)).1; have o1 := iK23; have o2 := c25; have o3 := iE147.2.2; have o4 := c149; have o5 := (q_subN (lo := 0) (hi := 3) e183 r_6 rl_1 (by decide)).1; have o6 := r_6; have o7 := r_7; have o8 := r_13; have o9 := r_16; have o10 := rA1; have l11 := tl_1; unfold q_r at o6 o7 o8 o9 o10; omega) r164_5 (by decide) rfl (fun s243 u243 w243 => ?_)
                        have m243 : s243 q_4b v240.toInt.toNat = .int p164_5 := by rw [u243]; exact q_up_same
                        refine q_iload (pc := 244) hG dX12_laysWear_244 5 rfl ?_
                        refine q_iload_n (pc := 246) hG dX12_laysWear_246 2 rfl ?_
                        refine q_iadd (pc := 247) hG dX12_laysWear_247 (fun v247 e247 => ?_)
                        rw [e247.trans e167.symm]
                        refine q_istore_n (pc := 248) [(3, .int v167), (0, .ref a0), (1, .int x1), (2, .int x2), (4, .int p147_4), (5, .int p164_5)] hG dX12_laysWear_248 (by decide) rfl ?_
                        obtain ⟨v249, e249⟩ : ∃ z : Int32, z = p147_4 + Int32.ofInt (-1) := ⟨_, rfl⟩
                        have h249 := q_incN (lo := 0) (hi := 3) r_6 (by decide) (by decide) e249
                        refine q_iinc (pc := 249) [(4, .int v249), (3, .int v167), (0, .ref a0), (1, .int x1), (2, .int x2), (5, .int p164_5)] hG dX12_laysWear_249 4 rfl e249 (by decide) rfl ?_
                        refine q_goto (pc := 252) 147 hG dX12_laysWear_252 rfl ?_
                        refine q_lv [2, 3, 4, 1, 0] rfl ?_
                        have r_17 := q_zge p188.1 c191
                        have n233 : 0 ≤ q_iv (σ147 q_3b) (65 * v249.toInt + v167.toInt) := by
                          have q := (p188.2 q_3b (hS147.same tA0 rfl q_3f))
                          rw [show v183.toInt = v249.toInt from (by have o0 := iE147.2.2; have o1 := c149; have o2 := (q_subN (lo := 0) (hi := 3) e183 r_6 rl_1 (by decide)).1; have o3 := (q_subN (lo := (-3)) (hi := 3) e240 rA1 r_6 (by decide)).1; have o4 := h249.1; have o5 := iK23; have o6 := c25; have o7 := r_6; have o8 := r_7; have o9 := r_13; have o10 := r_16; have o11 := h249.2; have o12 := rA1; have l13 := tl_1; unfold q_r at o7 o8 o9 o10 o11 o12; omega)] at q
                          unfold q_iv
                          rw [q]
                          exact (by have o0 := c191; have o1 := r_17; unfold q_r at o1; omega)
                        exact ih147 v167 v249 s243 (q_r.mono r_14 (by decide)) (q_r.mono h249.2 (by decide)) w243 ⟨(by rw [(by rw [u243]; exact q_upK q_3T q_4T (by decide) : s243 q_3b = σ147 q_3b)]; exact iE147.1), (fun _ => by rw [(by rw [u243]; exact q_upK q_3T q_4T (by decide) : s243 q_3b = σ147 q_3b)]; exact n233), (by have o0 := iK23; have o1 := c25; have o2 := iE147.2.2; have o3 := c149; have o4 := (q_subN (lo := 0) (hi := 3) e183 r_6 rl_1 (by decide)).1; have o5 := (q_subN (lo := (-3)) (hi := 3) e240 rA1 r_6 (by decide)).1; have o6 := h249.1; have o7 := r_6; have o8 := r_7; have o9 := r_13; have o10 := r_16; have o11 := h249.2; have o12 := rA1; have l13 := tl_1; unfold q_r at o7 o8 o9 o10 o11 o12; omega)⟩ (q_measD hm147 (by have o0 := iE147.2.2; have o1 := c149; have o2 := (q_subN (lo := 0) (hi := 3) e183 r_6 rl_1 (by decide)).1; have o3 := (q_subN (lo := (-3)) (hi := 3) e240 rA1 r_6 (by decide)).1; have o4 := h249.1; have o5 := iK23; have o6 := c25; have o7 := r_6; have o8 := r_7; have o9 := r_13; have o10 := r_16; have o11 := h249.2; have o12 := rA1; have l13 := tl_1; unfold q_r at o7 o8 o9 o10 o11 o12; omega) (h249.2).1)
                      intro c221
                      refine q_lv [0, 1, 2, 3, 4, 5] rfl ?_
                      have w218 : q_iv (σ147 q_3b) (65 * p147_4.toInt + p147_3.toInt) = v218.toInt := congrArg Int32.toInt (p218.2 q_3b (hS147.same tA0 rfl q_3f))
                      have w213 : (q_wi (σ q_1b) p164_5.toInt.toNat x2.toInt.toNat + q_i32 (σ147 q_3b (65 * (p147_4.toInt - 1) + (p164_5.toInt + x2.toInt)).toNat)) = v213 := by rw [(show q_i32 (σ147 q_3b (65 * (p147_4.toInt - 1) + (p164_5.toInt + x2.toInt)).toNat) = v210 from (by rw [← show v183.toInt = p147_4.toInt - 1 from (by have o0 := iE147.2.2; have o1 := c149; have o2 := (q_subN (lo := 0) (hi := 3) e183 r_6 rl_1 (by decide)).1; have o3 := iK23; have o4 := c25; have o5 := r_6; have o6 := r_7; have o7 := r_13; have o8 := rA1; have l9 := tl_1; unfold q_r at o5 o6 o7 o8; omega), ← show v167.toInt = p164_5.toInt + x2.toInt from (by have o0 := j2; have o1 := iJ164; have o2 := (q_addN (lo := 1) (hi := 80) e167 r164_5 rA2 (by decide)).1; have o3 := c176; have o4 := j1; have o5 := r147_3; have o6 := r164_5; have o7 := q_2r; have o8 := r_14; have o9 := rA2; unfold q_r at o5 o6 o7 o8 o9; omega)]; exact (p210.2 q_3b (hS147.same tA0 rfl q_3f)))), ← ev198, e213]
                      exact J224 ((Int.lt_or_eq_of_le iJ164).elim id (fun h => absurd j4 (by rw [← h, w213, w218]; exact (by have o0 := c221; have o1 := p218.1; unfold q_r at o1; omega))))
                  refine q_lv [1, 2, 3, 4, 5, 0] rfl ?_
                  exact J164 _ p147_3 r147_3 (by have o0 := j1; have o1 := j2; have o2 := r147_3; have o3 := q_2r; have o4 := rA2; unfold q_r at o2 o3 o4; omega) (Nat.lt_succ_self _)
              refine q_lv [2, 3, 4, 1, 0] rfl ?_
              have r_18 := q_rgt r23_3 rA1 c25 2 (by decide)
              exact J147 _ 0 x1 σ23 (q_r.mono rl_0 (by decide)) (q_r.mono rA1 (by decide)) hS23 ⟨(by have q := iE23; rw [show p23_3.toInt = x1.toInt + 1 from (by have o0 := iK23; have o1 := c25; have o2 := r_18; have o3 := rA1; unfold q_r at o2 o3; omega)] at q; exact q), (fun q => by rw [tl_0]; exact q), (by have o0 := iK23; have o1 := c25; have o2 := r_18; have o3 := rA1; unfold q_r at o2 o3; omega)⟩ (Nat.lt_succ_self _)
            intro c25
            refine q_bipush (pc := 28) hG dX12_laysWear_28 kb_64 ?_
            refine q_istore (pc := 30) [(4, .int 64), (0, .ref a0), (1, .int x1), (2, .int x2), (3, .int p23_3)] hG dX12_laysWear_30 (by decide) rfl ?_
            have J32 : ∀ (n32 : Nat) (p32_4 : Int32) (σ32 : q_V), (q_r p32_4 (-1) 64) → (q_S md_X12_laysWear τ σ σ32) → (q_Et (σ q_1b) (σ32 q_3b) q_2v.toInt x2.toInt p23_3.toInt p32_4.toInt) → ((p32_4.toInt - (-1)).toNat < n32) → q_O X 0 0 τ σ32 32 [(0, .ref a0), (1, .int x1), (2, .int x2), (3, .int p23_3), (4, .int p32_4)] [] := by
              intro n32
              induction n32 with
              | zero => intro p32_4 σ32 r32_4 hS32 iE32 hm32; exact absurd hm32 (Nat.not_lt_zero _)
              | succ n32 ih32 =>
                intro p32_4 σ32 r32_4 hS32 iE32 hm32
                refine q_iload (pc := 32) hG dX12_laysWear_32 4 rfl ?_
                refine q_if_lt (pc := 34) hG 136 dX12_laysWear_34 rfl ?_ ?_
                · intro c34
                  obtain ⟨v136, e136⟩ : ∃ z : Int32, z = p23_3 + Int32.ofInt 1 := ⟨_, rfl⟩
                  have r_19 := q_rle r23_3 rA1 c25
                  have h136 := q_incN (lo := 2) (hi := 5) r_19 (by decide) (by decide) e136
                  refine q_iinc (pc := 136) [(3, .int v136), (0, .ref a0), (1, .int x1), (2, .int x2), (4, .int p32_4)] hG dX12_laysWear_136 3 rfl e136 (by decide) rfl ?_
                  refine q_goto (pc := 139) 23 hG dX12_laysWear_139 rfl ?_
                  refine q_lv [1, 2, 3, 0] rfl ?_
                  have r_20 := q_zlt r32_4 c34
                  exact ih23 v136 σ32 (q_r.mono h136.2 (by decide)) hS32 (by rw [show v136.toInt = p23_3.toInt + 1 from (by have o0 := iK23; have o1 := c25; have o2 := h136.1; have o3 := r_19; have o4 := h136.2; have o5 := rA1; unfold q_r at o3 o4 o5; omega)]; exact q_Et.next (by have q := iE32; rw [show p32_4.toInt = -1 from (by have o0 := c34; have o1 := r_20; unfold q_r at o1; omega)] at q; exact q)) (by have o0 := iK23; have o1 := c25; have o2 := h136.1; have o3 := r_19; have o4 := h136.2; have o5 := rA1; unfold q_r at o3 o4 o5; omega) (q_measU hm23 (by have o0 := iK23; have o1 := c25; have o2 := h136.1; have o3 := r_19; have o4 := h136.2; have o5 := rA1; unfold q_r at o3 o4 o5; omega) (h136.2).2)
                intro c34
                refine q_iload (pc := 37) hG dX12_laysWear_37 4 rfl ?_
                refine q_bipush (pc := 39) hG dX12_laysWear_39 kb_64 ?_
                have J59 : ∀ (p59_s0 : Int32), (q_Eb (σ q_1b) (σ32 q_3b) q_2v.toInt x2.toInt p23_3.toInt p32_4.toInt p59_s0.toInt) → q_O X 0 0 τ σ32 59 [(0, .ref a0), (1, .int x1), (2, .int x2), (3, .int p23_3), (4, .int p32_4)] [.int p59_s0] := by
                  intro p59_s0 iB59
                  refine q_istore (pc := 59) [(5, .int p59_s0), (0, .ref a0), (1, .int x1), (2, .int x2), (3, .int p23_3), (4, .int p32_4)] hG dX12_laysWear_59 (by decide) rfl ?_
                  refine q_iload (pc := 61) hG dX12_laysWear_61 5 rfl ?_
                  refine q_iload_n (pc := 63) hG dX12_laysWear_63 3 rfl ?_
                  refine q_iadd (pc := 64) hG dX12_laysWear_64 (fun v64 e64 => ?_)
                  have r_21 := q_zge r32_4 c34
                  refine q_aload_n (pc := 65) hG dX12_laysWear_65 1 rfl ?_
                  refine q_getV (pc := 66) (v := .ref q_1b) hG fl_X12_7 dX12_laysWear_66 tA0 (hS32.same tA0 rfl q_1f) ?_
                  refine q_sipush (pc := 69) hG dX12_laysWear_69 ks_512 ?_
                  refine q_ialdV (pc := 72) (v := .int q_2v) hG dX12_laysWear_72 q_1T (by decide) (by decide) (q_ix rl_512 (by decide)) (hS32.same q_1T rfl q_2g) ?_
                  have J116 : ∀ (p116_5 : Int32), (q_Eb (σ q_1b) (σ32 q_3b) q_2v.toInt x2.toInt p23_3.toInt p32_4.toInt p116_5.toInt) → q_O X 0 0 τ σ32 116 [(0, .ref a0), (1, .int x1), (2, .int x2), (3, .int p23_3), (4, .int p32_4), (5, .int p116_5)] [] := by
                    intro p116_5 iB116
                    refine q_aload_n (pc := 116) hG dX12_laysWear_116 0 rfl ?_
                    refine q_getV (pc := 117) (v := .ref q_3b) hG fl_X12_92 dX12_laysWear_117 tA0 (hS32.same tA0 rfl q_3f) ?_
                    refine q_bipush (pc := 120) hG dX12_laysWear_120 kb_65 ?_
                    refine q_iload_n (pc := 122) hG dX12_laysWear_122 3 rfl ?_
                    refine q_imul (pc := 123) hG dX12_laysWear_123 (fun v123 e123 => ?_)
                    have r_22 := q_rle r23_3 rA1 c25
                    refine q_iload (pc := 124) hG dX12_laysWear_124 4 rfl ?_
                    refine q_iadd (pc := 126) hG dX12_laysWear_126 (fun v126 e126 => ?_)
                    have r_23 := (q_mulN (lo := 65) (hi := 260) e123 rl_65 r_22 (by decide)).2
                    refine q_iload (pc := 127) hG dX12_laysWear_127 5 rfl ?_
                    have r_24 := (q_addN (lo := 65) (hi := 324) e126 r_23 r_21 (by decide)).2
                    refine q_iast (pc := 129) hG dX12_laysWear_129 hS32 ai_173 q_3T (q_ix r_24 (by decide)) (q_r_any p116_5) (by decide) rfl (fun s129 u129 w129 => ?_)
                    have m129 : s129 q_3b v126.toInt.toNat = .int p116_5 := by rw [u129]; exact q_up_same
                    obtain ⟨v130, e130⟩ : ∃ z : Int32, z = p32_4 + Int32.ofInt (-1) := ⟨_, rfl⟩
                    have h130 := q_incN (lo := (-1)) (hi := 63) r_21 (by decide) (by decide) e130
                    refine q_iinc (pc := 130) [(4, .int v130), (0, .ref a0), (1, .int x1), (2, .int x2), (3, .int p23_3), (5, .int p116_5)] hG dX12_laysWear_130 4 rfl e130 (by decide) rfl ?_
                    refine q_goto (pc := 133) 32 hG dX12_laysWear_133 rfl ?_
                    refine q_lv [1, 2, 3, 4, 0] rfl ?_
                    have r_25 := (q_addN (lo := 1) (hi := 80) e64 r_21 rA2 (by decide)).2
                    exact ih32 v130 s129 (q_r.mono h130.2 (by decide)) w129 (by rw [show s129 q_3b = updV (σ32 q_3b) v126.toInt.toNat (.int p116_5) from (by rw [u129]; exact q_upF), show v126.toInt = 65 * p23_3.toInt + p32_4.toInt from (by have o0 := iK23; have o1 := c25; have o2 := c34; have o3 := (q_addN (lo := 1) (hi := 80) e64 r_21 rA2 (by decide)).1; have o4 := (by have q := (q_mulN (lo := 65) (hi := 260) e123 rl_65 r_22 (by decide)).1; rw [tl_65] at q; exact q); have o5 := (q_addN (lo := 65) (hi := 324) e126 r_23 r_21 (by decide)).1; have o6 := h130.1; have o7 := r_22; have o8 := r_21; have o9 := r_23; have o10 := r_24; have o11 := h130.2; have o12 := r_25; have o13 := rA1; have o14 := rA2; unfold q_r at o7 o8 o9 o10 o11 o12 o13 o14; omega), show v130.toInt = p32_4.toInt - 1 from (by have o0 := c34; have o1 := (q_addN (lo := 1) (hi := 80) e64 r_21 rA2 (by decide)).1; have o2 := (q_addN (lo := 65) (hi := 324) e126 r_23 r_21 (by decide)).1; have o3 := h130.1; have o4 := (by have q := (q_mulN (lo := 65) (hi := 260) e123 rl_65 r_22 (by decide)).1; rw [tl_65] at q; exact q); have o5 := iK23; have o6 := c25; have o7 := r_22; have o8 := r_21; have o9 := r_23; have o10 := r_24; have o11 := h130.2; have o12 := r_25; have o13 := rA1; have o14 := rA2; unfold q_r at o7 o8 o9 o10 o11 o12 o13 o14; omega)]; exact iE32.put (by have o0 := iK23; have o1 := c25; have o2 := c34; have o3 := (q_addN (lo := 1) (hi := 80) e64 r_21 rA2 (by decide)).1; have o4 := (by have q := (q_mulN (lo := 65) (hi := 260) e123 rl_65 r_22 (by decide)).1; rw [tl_65] at q; exact q); have o5 := (q_addN (lo := 65) (hi := 324) e126 r_23 r_21 (by decide)).1; have o6 := h130.1; have o7 := r_22; have o8 := r_21; have o9 := q_2r; have o10 := r_23; have o11 := r_24; have o12 := h130.2; have o13 := r_25; have o14 := rA1; have o15 := rA2; unfold q_r at o7 o8 o9 o10 o11 o12 o13 o14 o15; omega) iB116) (q_measD hm32 (by have o0 := c34; have o1 := (q_addN (lo := 1) (hi := 80) e64 r_21 rA2 (by decide)).1; have o2 := (q_addN (lo := 65) (hi := 324) e126 r_23 r_21 (by decide)).1; have o3 := h130.1; have o4 := (by have q := (q_mulN (lo := 65) (hi := 260) e123 rl_65 r_22 (by decide)).1; rw [tl_65] at q; exact q); have o5 := iK23; have o6 := c25; have o7 := r_22; have o8 := r_21; have o9 := r_23; have o10 := r_24; have o11 := h130.2; have o12 := r_25; have o13 := rA1; have o14 := rA2; unfold q_r at o7 o8 o9 o10 o11 o12 o13 o14; omega) (h130.2).1)
                  refine q_icmp_gt (pc := 73) hG 116 dX12_laysWear_73 rfl ?_ ?_
                  · intro c73
                    have r_26 := (q_addN (lo := 1) (hi := 80) e64 r_21 rA2 (by decide)).2
                    refine q_lv [1, 2, 3, 4, 5, 0] rfl ?_
                    exact J116 p59_s0 iB59
                  intro c73
                  have r_27 := (q_addN (lo := 1) (hi := 80) e64 r_21 rA2 (by decide)).2
                  refine q_aload_n (pc := 76) hG dX12_laysWear_76 1 rfl ?_
                  refine q_iload_n (pc := 77) hG dX12_laysWear_77 4 rfl ?_
                  refine q_iconst (pc := 78) hG dX12_laysWear_78 ki_1 ?_
                  refine q_isub (pc := 79) hG dX12_laysWear_79 (fun v79 e79 => ?_)
                  have r_28 := q_rle r23_3 rA1 c25
                  refine q_iload (pc := 80) hG dX12_laysWear_80 5 rfl ?_
                  refine q_iload_n (pc := 82) hG dX12_laysWear_82 3 rfl ?_
                  refine q_iadd (pc := 83) hG dX12_laysWear_83 (fun v83 e83 => ?_)
                  rw [e83.trans e64.symm]
                  have r_29 := (q_subN (lo := 0) (hi := 3) e79 r_28 rl_1 (by decide)).2
                  have r_30 := q_rle r_27 q_2r c73
                  refine q_pV (pc := 84) [.int v79, .int v64] [] hG (c_X12_wearFrom τ σ32 a0 v79 v64 hS32.1 tA0 (q_r.mono r_29 (by decide)) (q_r.mono r_30 (by decide))) my_X12_wearFrom mv_X12_wearFrom w1190 dX12_laysWear_84 tA0 (by decide) rfl rfl (Nat.le_of_ble_eq_true rfl) (by decide) (fun v84 p84 => ?_)
                  refine q_if_lt (pc := 87) hG 116 dX12_laysWear_87 rfl ?_ ?_
                  · intro c87
                    refine q_lv [1, 2, 3, 4, 5, 0] rfl ?_
                    exact J116 p59_s0 iB59
                  intro c87
                  refine q_iload (pc := 90) hG dX12_laysWear_90 0 rfl ?_
                  refine q_aload_n (pc := 92) hG dX12_laysWear_92 1 rfl ?_
                  refine q_iload (pc := 93) hG dX12_laysWear_93 5 rfl ?_
                  refine q_iload_n (pc := 95) hG dX12_laysWear_95 3 rfl ?_
                  refine q_pV (pc := 96) [.int p32_4, .int x2] [.int p59_s0] hG (c_X12_wearIn τ σ32 a0 p32_4 x2 hS32.1 tA0 r_21 rA2) my_X12_wearIn mv_X12_wearIn w1194 dX12_laysWear_96 tA0 (by decide) rfl rfl (Nat.le_of_ble_eq_true rfl) (by decide) (fun v96 p96 => ?_)
                  have ev96 := (p96.2 q_1b (hS32.same tA0 rfl q_1f))
                  rw [((funext fun j => hS32.2.arr q_1T (by decide) rfl) : σ32 q_1b = σ q_1b)] at ev96
                  refine q_aload_n (pc := 99) hG dX12_laysWear_99 1 rfl ?_
                  refine q_iload_n (pc := 100) hG dX12_laysWear_100 4 rfl ?_
                  refine q_iconst (pc := 101) hG dX12_laysWear_101 ki_1 ?_
                  refine q_isub (pc := 102) hG dX12_laysWear_102 (fun v102 e102 => ?_)
                  rw [e102.trans e79.symm]
                  refine q_iload (pc := 103) hG dX12_laysWear_103 5 rfl ?_
                  refine q_iload_n (pc := 105) hG dX12_laysWear_105 3 rfl ?_
                  refine q_iadd (pc := 106) hG dX12_laysWear_106 (fun v106 e106 => ?_)
                  rw [e106.trans e64.symm]
                  refine q_pV (pc := 107) [.int v79, .int v64] [.int v96, .int p59_s0] hG (c_X12_wearFrom τ σ32 a0 v79 v64 hS32.1 tA0 (q_r.mono r_29 (by decide)) (q_r.mono r_30 (by decide))) my_X12_wearFrom mv_X12_wearFrom w1190 dX12_laysWear_107 tA0 (by decide) rfl rfl (Nat.le_of_ble_eq_true rfl) (by decide) (fun v107 p107 => ?_)
                  refine q_iadd (pc := 110) hG dX12_laysWear_110 (fun v110 e110 => ?_)
                  refine q_pS (pc := 111) [.int p59_s0, .int v110] [] hG (c_X12_max τ σ32 p59_s0 v110 hS32.1) my_X12_max w1003 w1002 dX12_laysWear_111 rfl rfl (Nat.le_of_ble_eq_true rfl) (by decide) (fun v111 p111 => ?_)
                  refine q_istore (pc := 114) [(5, .int v111), (0, .ref a0), (1, .int x1), (2, .int x2), (3, .int p23_3), (4, .int p32_4)] hG dX12_laysWear_114 (by decide) rfl ?_
                  refine q_lv [1, 2, 3, 4, 5, 0] rfl ?_
                  have w84 : q_i32 (σ32 q_3b (65 * (p23_3.toInt - 1) + (p32_4.toInt + x2.toInt)).toNat) = v84 := by rw [← show v79.toInt = p23_3.toInt - 1 from (by have o0 := iK23; have o1 := c25; have o2 := (q_subN (lo := 0) (hi := 3) e79 r_28 rl_1 (by decide)).1; have o3 := r_28; have o4 := r_29; have o5 := rA1; have l6 := tl_1; unfold q_r at o3 o4 o5; omega), ← show v64.toInt = p32_4.toInt + x2.toInt from (by have o0 := c34; have o1 := (q_addN (lo := 1) (hi := 80) e64 r_21 rA2 (by decide)).1; have o2 := c73; have o3 := r_21; have o4 := q_2r; have o5 := r_30; have o6 := rA2; unfold q_r at o3 o4 o5 o6; omega)]; exact (p84.2 q_3b (hS32.same tA0 rfl q_3f))
                  have w107 : q_i32 (σ32 q_3b (65 * (p23_3.toInt - 1) + (p32_4.toInt + x2.toInt)).toNat) = v107 := by rw [← show v79.toInt = p23_3.toInt - 1 from (by have o0 := iK23; have o1 := c25; have o2 := (q_subN (lo := 0) (hi := 3) e79 r_28 rl_1 (by decide)).1; have o3 := r_28; have o4 := r_29; have o5 := rA1; have l6 := tl_1; unfold q_r at o3 o4 o5; omega), ← show v64.toInt = p32_4.toInt + x2.toInt from (by have o0 := c34; have o1 := (q_addN (lo := 1) (hi := 80) e64 r_21 rA2 (by decide)).1; have o2 := c73; have o3 := r_21; have o4 := q_2r; have o5 := r_30; have o6 := rA2; unfold q_r at o3 o4 o5 o6; omega)]; exact (p107.2 q_3b (hS32.same tA0 rfl q_3f))
                  have r_31 := q_zge p84.1 c87
                  have h110 : q_Eb (σ q_1b) (σ32 q_3b) q_2v.toInt x2.toInt p23_3.toInt p32_4.toInt v110.toInt := q_Eb.here (by have o0 := c34; have o1 := (q_addN (lo := 1) (hi := 80) e64 r_21 rA2 (by decide)).1; have o2 := c73; have o3 := r_21; have o4 := q_2r; have o5 := r_30; have o6 := rA2; unfold q_r at o3 o4 o5 o6; omega) (by unfold q_iv; rw [w84]; exact (by have o0 := c87; have o1 := r_31; unfold q_r at o1; omega)) (by rw [w107, ← ev96, e110])
                  exact J116 v111 (p111.2.2.1.2.elim (fun q => by rw [q]; exact iB59) (fun q => by rw [q]; exact h110))
                refine q_icmp_ge (pc := 41) hG 56 dX12_laysWear_41 rfl ?_ ?_
                · intro c41
                  have r_32 := q_zge r32_4 c34
                  refine q_ldcw (pc := 56) hG w1193 dX12_laysWear_56 ?_
                  refine q_lv [0, 1, 2, 3, 4] rfl ?_
                  exact J59 (-1000000000) (q_Eb.neg (by have l0 := tl_m1000000000; omega))
                intro c41
                have r_33 := q_zge r32_4 c34
                refine q_aload_n (pc := 44) hG dX12_laysWear_44 0 rfl ?_
                refine q_iload_n (pc := 45) hG dX12_laysWear_45 3 rfl ?_
                refine q_iload (pc := 46) hG dX12_laysWear_46 4 rfl ?_
                refine q_iconst (pc := 48) hG dX12_laysWear_48 ki_1 ?_
                refine q_iadd (pc := 49) hG dX12_laysWear_49 (fun v49 e49 => ?_)
                have r_34 := q_rlt r_33 rl_64 c41 63 (by decide)
                have r_35 := q_rle r23_3 rA1 c25
                have r_36 := (q_addN (lo := 1) (hi := 64) e49 r_34 rl_1 (by decide)).2
                refine q_pV (pc := 50) [.int p23_3, .int v49] [] hG (c_X12_wearFrom τ σ32 a0 p23_3 v49 hS32.1 tA0 (q_r.mono r_35 (by decide)) (q_r.mono r_36 (by decide))) my_X12_wearFrom mv_X12_wearFrom w1190 dX12_laysWear_50 tA0 (by decide) rfl rfl (Nat.le_of_ble_eq_true rfl) (by decide) (fun v50 p50 => ?_)
                refine q_goto (pc := 53) 59 hG dX12_laysWear_53 rfl ?_
                refine q_lv [0, 1, 2, 3, 4] rfl ?_
                exact J59 v50 (by have q := (iE32 p23_3.toInt (p32_4.toInt + 1) (by have o0 := iK23; have o1 := c25; have o2 := r_35; have o3 := rA1; unfold q_r at o2 o3; omega) (Or.inr ⟨rfl, (by have o0 := c34; have o1 := c41; have o2 := (q_addN (lo := 1) (hi := 64) e49 r_34 rl_1 (by decide)).1; have o3 := r_34; have o4 := r_36; have l5 := tl_1; have l6 := tl_64; unfold q_r at o3 o4; omega)⟩) (by have o0 := c34; have o1 := c41; have o2 := (q_addN (lo := 1) (hi := 64) e49 r_34 rl_1 (by decide)).1; have o3 := r_34; have o4 := r_36; have l5 := tl_1; have l6 := tl_64; unfold q_r at o3 o4; omega) (by have o0 := c34; have o1 := c41; have o2 := (q_addN (lo := 1) (hi := 64) e49 r_34 rl_1 (by decide)).1; have o3 := r_34; have o4 := r_36; have l5 := tl_1; have l6 := tl_64; unfold q_r at o3 o4; omega)).mono (i' := p32_4.toInt) (by have o0 := c34; have o1 := c41; have o2 := (q_addN (lo := 1) (hi := 64) e49 r_34 rl_1 (by decide)).1; have o3 := r_34; have o4 := r_36; have l5 := tl_1; have l6 := tl_64; unfold q_r at o3 o4; omega); rw [← show v49.toInt = p32_4.toInt + 1 from (by have o0 := c34; have o1 := c41; have o2 := (q_addN (lo := 1) (hi := 64) e49 r_34 rl_1 (by decide)).1; have o3 := r_34; have o4 := r_36; have l5 := tl_1; have l6 := tl_64; unfold q_r at o3 o4; omega)] at q; unfold q_iv at q; rw [(p50.2 q_3b (hS32.same tA0 rfl q_3f))] at q; exact q)
            refine q_lv [1, 2, 3, 4, 0] rfl ?_
            exact J32 _ 64 σ23 (q_r.mono rl_64 (by decide)) hS23 (by rw [tl_64]; exact iE23) (Nat.lt_succ_self _)
        refine q_lv [1, 2, 3, 0] rfl ?_
        exact J23 _ 1 σ2 (q_r.mono rl_1 (by decide)) hS2 (by rw [tl_1]; exact q_Et.new) (by have o0 := rA1; have l1 := tl_1; unfold q_r at o0; omega) (Nat.lt_succ_self _)
      intro c5
      refine q_aload_n (pc := 8) hG dX12_laysWear_8 0 rfl ?_
      refine q_getV (pc := 9) (v := .ref q_3b) hG fl_X12_92 dX12_laysWear_9 tA0 (hS2.same tA0 rfl q_3f) ?_
      refine q_iload_n (pc := 12) hG dX12_laysWear_12 3 rfl ?_
      refine q_iconst (pc := 13) hG dX12_laysWear_13 ki_0 ?_
      have r_37 := q_rle r2_3 rl_64 c5
      refine q_iast (pc := 14) hG dX12_laysWear_14 hS2 ai_173 q_3T (q_ix r_37 (by decide)) rl_0 (by decide) rfl (fun s14 u14 w14 => ?_)
      have m14 : s14 q_3b p2_3.toInt.toNat = .int 0 := by rw [u14]; exact q_up_same
      obtain ⟨v15, e15⟩ : ∃ z : Int32, z = p2_3 + Int32.ofInt 1 := ⟨_, rfl⟩
      have h15 := q_incN (lo := 1) (hi := 65) r_37 (by decide) (by decide) e15
      refine q_iinc (pc := 15) [(3, .int v15), (0, .ref a0), (1, .int x1), (2, .int x2)] hG dX12_laysWear_15 3 rfl e15 (by decide) rfl ?_
      refine q_goto (pc := 18) 2 hG dX12_laysWear_18 rfl ?_
      refine q_lv [1, 2, 3, 0] rfl ?_
      exact ih2 v15 s14 (q_r.mono h15.2 (by decide)) w14 (q_measU hm2 (by have o0 := c5; have o1 := h15.1; have o2 := r_37; have o3 := h15.2; have l4 := tl_64; unfold q_r at o2 o3; omega) (h15.2).2)
  refine q_lv [1, 2, 3, 0] rfl ?_
  exact J2 _ 0 σ (q_r.mono rl_0 (by decide)) hS0 (Nat.lt_succ_self _)
theorem dX12_renewed_0 : decode cX12_renewed 0 = .ok (.iload_n 1, 1) := by decide +kernel
theorem dX12_renewed_1 : decode cX12_renewed 1 = .ok (.iconst 1, 1) := by decide +kernel
theorem dX12_renewed_2 : decode cX12_renewed 2 = .ok (.iconst 4, 1) := by decide +kernel
theorem dX12_renewed_3 : decode cX12_renewed 3 = .ok (.invokestatic 102, 3) := by decide +kernel
theorem dX12_renewed_6 : decode cX12_renewed 6 = .ok (.ifCond .eq 30, 3) := by decide +kernel
theorem dX12_renewed_9 : decode cX12_renewed 9 = .ok (.iload_n 2, 1) := by decide +kernel
theorem dX12_renewed_10 : decode cX12_renewed 10 = .ok (.iconst 1, 1) := by decide +kernel
theorem dX12_renewed_11 : decode cX12_renewed 11 = .ok (.bipush 16, 2) := by decide +kernel
theorem dX12_renewed_13 : decode cX12_renewed 13 = .ok (.invokestatic 102, 3) := by decide +kernel
theorem dX12_renewed_16 : decode cX12_renewed 16 = .ok (.ifCond .eq 20, 3) := by decide +kernel
theorem dX12_renewed_19 : decode cX12_renewed 19 = .ok (.iload_n 3, 1) := by decide +kernel
theorem dX12_renewed_20 : decode cX12_renewed 20 = .ok (.bipush 10, 2) := by decide +kernel
theorem dX12_renewed_22 : decode cX12_renewed 22 = .ok (.if_icmp .eq 16, 3) := by decide +kernel
theorem dX12_renewed_25 : decode cX12_renewed 25 = .ok (.iload_n 3, 1) := by decide +kernel
theorem dX12_renewed_26 : decode cX12_renewed 26 = .ok (.iconst 0, 1) := by decide +kernel
theorem dX12_renewed_27 : decode cX12_renewed 27 = .ok (.iload_n 1, 1) := by decide +kernel
theorem dX12_renewed_28 : decode cX12_renewed 28 = .ok (.iconst 1, 1) := by decide +kernel
theorem dX12_renewed_29 : decode cX12_renewed 29 = .ok (.isub, 1) := by decide +kernel
theorem dX12_renewed_30 : decode cX12_renewed 30 = .ok (.invokestatic 102, 3) := by decide +kernel
theorem dX12_renewed_33 : decode cX12_renewed 33 = .ok (.ifCond .ne 5, 3) := by decide +kernel
theorem dX12_renewed_36 : decode cX12_renewed 36 = .ok (.iconst (-1), 1) := by decide +kernel
theorem dX12_renewed_37 : decode cX12_renewed 37 = .ok (.ireturn, 1) := by decide +kernel
theorem dX12_renewed_38 : decode cX12_renewed 38 = .ok (.iload_n 1, 1) := by decide +kernel
theorem dX12_renewed_39 : decode cX12_renewed 39 = .ok (.iload_n 2, 1) := by decide +kernel
theorem dX12_renewed_40 : decode cX12_renewed 40 = .ok (.imul, 1) := by decide +kernel
theorem dX12_renewed_41 : decode cX12_renewed 41 = .ok (.aload_n 0, 1) := by decide +kernel
theorem dX12_renewed_42 : decode cX12_renewed 42 = .ok (.getfield 7, 3) := by decide +kernel
theorem dX12_renewed_45 : decode cX12_renewed 45 = .ok (.sipush 512, 3) := by decide +kernel
theorem dX12_renewed_48 : decode cX12_renewed 48 = .ok (.iaload, 1) := by decide +kernel
theorem dX12_renewed_49 : decode cX12_renewed 49 = .ok (.if_icmp .le 6, 3) := by decide +kernel
theorem dX12_renewed_52 : decode cX12_renewed 52 = .ok (.bipush (-2), 2) := by decide +kernel
theorem dX12_renewed_54 : decode cX12_renewed 54 = .ok (.ireturn, 1) := by decide +kernel
theorem dX12_renewed_55 : decode cX12_renewed 55 = .ok (.aload_n 0, 1) := by decide +kernel
theorem dX12_renewed_56 : decode cX12_renewed 56 = .ok (.iload_n 1, 1) := by decide +kernel
theorem dX12_renewed_57 : decode cX12_renewed 57 = .ok (.iload_n 2, 1) := by decide +kernel
theorem dX12_renewed_58 : decode cX12_renewed 58 = .ok (.invokevirtual 421, 3) := by decide +kernel
theorem dX12_renewed_61 : decode cX12_renewed 61 = .ok (.iload_n 3, 1) := by decide +kernel
theorem dX12_renewed_62 : decode cX12_renewed 62 = .ok (.bipush 10, 2) := by decide +kernel
theorem dX12_renewed_64 : decode cX12_renewed 64 = .ok (.if_icmp .ne 12, 3) := by decide +kernel
theorem dX12_renewed_67 : decode cX12_renewed 67 = .ok (.aload_n 0, 1) := by decide +kernel
theorem dX12_renewed_68 : decode cX12_renewed 68 = .ok (.iload_n 1, 1) := by decide +kernel
theorem dX12_renewed_69 : decode cX12_renewed 69 = .ok (.iconst 0, 1) := by decide +kernel
theorem dX12_renewed_70 : decode cX12_renewed 70 = .ok (.invokevirtual 414, 3) := by decide +kernel
theorem dX12_renewed_73 : decode cX12_renewed 73 = .ok (.goto 9, 3) := by decide +kernel
theorem dX12_renewed_76 : decode cX12_renewed 76 = .ok (.aload_n 0, 1) := by decide +kernel
theorem dX12_renewed_77 : decode cX12_renewed 77 = .ok (.getfield 95, 3) := by decide +kernel
theorem dX12_renewed_80 : decode cX12_renewed 80 = .ok (.iload_n 3, 1) := by decide +kernel
theorem dX12_renewed_81 : decode cX12_renewed 81 = .ok (.iaload, 1) := by decide +kernel
theorem dX12_renewed_82 : decode cX12_renewed 82 = .ok (.ireturn, 1) := by decide +kernel
def md_X12_renewed : List (Nat × Nat) := [(173, 0), (174, 0)]
set_option maxRecDepth 100000 in
set_option maxHeartbeats 4000000 in
theorem c_X12_renewed {l : Launch} {D : q_D} (τ : q_T) (σ : q_V) (a0 : Nat) (x1 : Int32) (x2 : Int32) (x3 : Int32) (hI : q_I τ σ) (tA0 : τ a0 = some (10, 1)) : q_Ci l D yX12_renewed cX12_renewed 4 (some .int) 2 49 τ σ [.ref a0, .int x1, .int x2, .int x3] (fun r σ1 => q_S md_X12_renewed τ σ σ1 ∧ (q_r r (-2147483648) 2147483647)) := by
  refine q_meti rfl (Nat.le_of_ble_eq_true rfl) (fun X hG hE => ?_)
  show q_O X 0 0 τ σ 0 [(0, .ref a0), (1, .int x1), (2, .int x2), (3, .int x3)] []
  have hS0 : q_S md_X12_renewed τ σ σ := q_S.rf hI
  refine q_iload_n (pc := 0) hG dX12_renewed_0 1 rfl ?_
  refine q_iconst (pc := 1) hG dX12_renewed_1 ki_1 ?_
  refine q_iconst (pc := 2) hG dX12_renewed_2 ki_4 ?_
  refine q_pS (pc := 3) [.int x1, .int 1, .int 4] [] hG (c_X12_in τ σ x1 1 4 hI) my_X12_in w778 w777 dX12_renewed_3 rfl rfl (Nat.le_of_ble_eq_true rfl) (by decide) (fun v3 p3 => ?_)
  refine q_if_eq (pc := 6) hG 36 dX12_renewed_6 rfl ?_ ?_
  · intro c6
    refine q_iconst (pc := 36) hG dX12_renewed_36 ki_m1 ?_
    exact q_irt hG hE dX12_renewed_37 ⟨hS0, (q_r.mono rl_m1 (by decide))⟩
  intro c6
  have g_1 := p3.2.2.mp (q_one p3.1 c6)
  have r_2 := q_rge (q_r_any x1) rl_1 g_1.1
  refine q_iload_n (pc := 9) hG dX12_renewed_9 2 rfl ?_
  refine q_iconst (pc := 10) hG dX12_renewed_10 ki_1 ?_
  refine q_bipush (pc := 11) hG dX12_renewed_11 kb_16 ?_
  refine q_pS (pc := 13) [.int x2, .int 1, .int 16] [] hG (c_X12_in τ σ x2 1 16 hI) my_X12_in w778 w777 dX12_renewed_13 rfl rfl (Nat.le_of_ble_eq_true rfl) (by decide) (fun v13 p13 => ?_)
  refine q_if_eq (pc := 16) hG 36 dX12_renewed_16 rfl ?_ ?_
  · intro c16
    refine q_iconst (pc := 36) hG dX12_renewed_36 ki_m1 ?_
    exact q_irt hG hE dX12_renewed_37 ⟨hS0, (q_r.mono rl_m1 (by decide))⟩
  intro c16
  have g_3 := p13.2.2.mp (q_one p13.1 c16)
  have r_4 := q_rge (q_r_any x2) rl_1 g_3.1
  refine q_iload_n (pc := 19) hG dX12_renewed_19 3 rfl ?_
  refine q_bipush (pc := 20) hG dX12_renewed_20 kb_10 ?_
  have J38 : (x3.toInt = 10 ∨ (0 ≤ x3.toInt ∧ x3.toInt ≤ 3)) → q_O X 0 0 τ σ 38 [(0, .ref a0), (1, .int x1), (2, .int x2), (3, .int x3)] [] := by
    intro iA38
    refine q_iload_n (pc := 38) hG dX12_renewed_38 1 rfl ?_
    refine q_iload_n (pc := 39) hG dX12_renewed_39 2 rfl ?_
    refine q_imul (pc := 40) hG dX12_renewed_40 (fun v40 e40 => ?_)
    have r_5 := q_rle r_2 rl_4 g_1.2
    have r_6 := q_rle r_4 rl_16 g_3.2
    refine q_aload_n (pc := 41) hG dX12_renewed_41 0 rfl ?_
    refine q_getR (pc := 42) (k2 := 100) (n2 := 549) hG fl_X12_7 dX12_renewed_42 hI tA0 ff_10_0 (fun b42 f42 T42 => ?_)
    refine q_sipush (pc := 45) hG dX12_renewed_45 ks_512 ?_
    refine q_naldc (pc := 48) (a1 := 8) (a2 := 64) hG dX12_renewed_48 hI T42 (q_ix rl_512 (by decide)) rfl (fun v48 f48 g48 => ?_)
    refine q_icmp_le (pc := 49) hG 55 dX12_renewed_49 rfl ?_ ?_
    · intro c49
      have r_7 := (q_mulN (lo := 1) (hi := 64) e40 r_5 r_6 (by decide)).2
      refine q_aload_n (pc := 55) hG dX12_renewed_55 0 rfl ?_
      refine q_iload_n (pc := 56) hG dX12_renewed_56 1 rfl ?_
      refine q_iload_n (pc := 57) hG dX12_renewed_57 2 rfl ?_
      refine q_cVv (pc := 58) [.int x1, .int x2] [] hG (c_X12_laysWear τ σ a0 x1 x2 hI tA0 r_5 r_6) my_X12_laysWear mv_X12_laysWear w1187 dX12_renewed_58 tA0 (by decide) rfl rfl (Nat.le_of_ble_eq_true rfl) (by decide) (fun s58 p58 => ?_)
      have w58 := hS0.trans p58 rfl
      refine q_iload_n (pc := 61) hG dX12_renewed_61 3 rfl ?_
      refine q_bipush (pc := 62) hG dX12_renewed_62 kb_10 ?_
      refine q_icmp_ne (pc := 64) hG 76 dX12_renewed_64 rfl ?_ ?_
      · intro c64
        refine q_aload_n (pc := 76) hG dX12_renewed_76 0 rfl ?_
        refine q_getR (pc := 77) (k2 := 174) (n2 := 4) hG fl_X12_95 dX12_renewed_77 w58.1 tA0 ff_10_44 (fun b77 f77 T77 => ?_)
        have f_8 := (w58.2 _ _ _ _ tA0 rfl).symm.trans f77
        refine q_iload_n (pc := 80) hG dX12_renewed_80 3 rfl ?_
        refine q_iald (pc := 81) hG dX12_renewed_81 w58.1 ai_174 T77 (by have o0 := iA38; have o1 := (q_mulN (lo := 1) (hi := 64) e40 r_5 r_6 (by decide)).1; have o2 := c49; have o3 := c64; have o4 := g_1.1; have o5 := g_1.2; have o6 := g_3.1; have o7 := g_3.2; have o8 := r_7; have o9 := g48; have o10 := r_5; have o11 := r_6; have l12 := tl_1; have l13 := tl_4; have l14 := tl_10; have l15 := tl_16; unfold q_r at o8 o9 o10 o11; omega) (fun v81 f81 g81 => ?_)
        exact q_irt hG hE dX12_renewed_82 ⟨w58, g81⟩
      intro c64
      refine q_aload_n (pc := 67) hG dX12_renewed_67 0 rfl ?_
      refine q_iload_n (pc := 68) hG dX12_renewed_68 1 rfl ?_
      refine q_iconst (pc := 69) hG dX12_renewed_69 ki_0 ?_
      refine q_pV (pc := 70) [.int x1, .int 0] [] hG (c_X12_wearFrom τ s58 a0 x1 0 w58.1 tA0 (q_r.mono r_5 (by decide)) (q_r.mono rl_0 (by decide))) my_X12_wearFrom mv_X12_wearFrom w1190 dX12_renewed_70 tA0 (by decide) rfl rfl (Nat.le_of_ble_eq_true rfl) (by decide) (fun v70 p70 => ?_)
      obtain ⟨q_9b, q_9f, q_9T⟩ := (w58.1 a0 10 1 tA0 43 (by decide)).ref (k := 173) (n := 325) rfl
      have f_10 := (w58.2 _ _ _ _ tA0 rfl).symm.trans q_9f
      refine q_goto (pc := 73) 82 hG dX12_renewed_73 rfl ?_
      exact q_irt hG hE dX12_renewed_82 ⟨w58, p70.1⟩
    intro c49
    have r_11 := (q_mulN (lo := 1) (hi := 64) e40 r_5 r_6 (by decide)).2
    refine q_bipush (pc := 52) hG dX12_renewed_52 kb_m2 ?_
    exact q_irt hG hE dX12_renewed_54 ⟨hS0, (q_r.mono rl_m2 (by decide))⟩
  refine q_icmp_eq (pc := 22) hG 38 dX12_renewed_22 rfl ?_ ?_
  · intro c22
    refine q_lv [0, 1, 2, 3] rfl ?_
    have r_12 := q_rle r_2 rl_4 g_1.2
    have r_13 := q_req rl_10 c22
    exact J38 (by have o0 := g_1.1; have o1 := g_1.2; have o2 := c22; have o3 := r_12; have o4 := r_13; have l5 := tl_1; have l6 := tl_4; have l7 := tl_10; unfold q_r at o3 o4; omega)
  intro c22
  refine q_iload_n (pc := 25) hG dX12_renewed_25 3 rfl ?_
  refine q_iconst (pc := 26) hG dX12_renewed_26 ki_0 ?_
  refine q_iload_n (pc := 27) hG dX12_renewed_27 1 rfl ?_
  refine q_iconst (pc := 28) hG dX12_renewed_28 ki_1 ?_
  refine q_isub (pc := 29) hG dX12_renewed_29 (fun v29 e29 => ?_)
  have r_14 := q_rle r_2 rl_4 g_1.2
  refine q_pS (pc := 30) [.int x3, .int 0, .int v29] [] hG (c_X12_in τ σ x3 0 v29 hI) my_X12_in w778 w777 dX12_renewed_30 rfl rfl (Nat.le_of_ble_eq_true rfl) (by decide) (fun v30 p30 => ?_)
  refine q_if_ne (pc := 33) hG 38 dX12_renewed_33 rfl ?_ ?_
  · intro c33
    have g_15 := p30.2.2.mp (q_one p30.1 c33)
    have r_16 := q_rge (q_r_any x3) rl_0 g_15.1
    have r_17 := (q_subN (lo := 0) (hi := 3) e29 r_14 rl_1 (by decide)).2
    refine q_lv [0, 1, 2, 3] rfl ?_
    have r_18 := q_rle r_16 r_17 g_15.2
    exact J38 (by have o0 := g_1.1; have o1 := g_1.2; have o2 := c22; have o3 := (q_subN (lo := 0) (hi := 3) e29 r_14 rl_1 (by decide)).1; have o4 := g_15.1; have o5 := g_15.2; have o6 := r_17; have o7 := r_14; have o8 := r_18; have l9 := tl_0; have l10 := tl_1; have l11 := tl_4; have l12 := tl_10; unfold q_r at o6 o7 o8; omega)
  intro c33
  refine q_iconst (pc := 36) hG dX12_renewed_36 ki_m1 ?_
  exact q_irt hG hE dX12_renewed_37 ⟨hS0, (q_r.mono rl_m1 (by decide))⟩
theorem dX12_laysPins_0 : decode cX12_laysPins 0 = .ok (.aload_n 0, 1) := by decide +kernel
theorem dX12_laysPins_1 : decode cX12_laysPins 1 = .ok (.getfield 7, 3) := by decide +kernel
theorem dX12_laysPins_4 : decode cX12_laysPins 4 = .ok (.sipush 512, 3) := by decide +kernel
theorem dX12_laysPins_7 : decode cX12_laysPins 7 = .ok (.iaload, 1) := by decide +kernel
theorem dX12_laysPins_8 : decode cX12_laysPins 8 = .ok (.iconst 1, 1) := by decide +kernel
theorem dX12_laysPins_9 : decode cX12_laysPins 9 = .ok (.isub, 1) := by decide +kernel
theorem dX12_laysPins_10 : decode cX12_laysPins 10 = .ok (.istore_n 2, 1) := by decide +kernel
theorem dX12_laysPins_11 : decode cX12_laysPins 11 = .ok (.aload_n 0, 1) := by decide +kernel
theorem dX12_laysPins_12 : decode cX12_laysPins 12 = .ok (.getfield 68, 3) := by decide +kernel
theorem dX12_laysPins_15 : decode cX12_laysPins 15 = .ok (.iload_n 2, 1) := by decide +kernel
theorem dX12_laysPins_16 : decode cX12_laysPins 16 = .ok (.iconst 1, 1) := by decide +kernel
theorem dX12_laysPins_17 : decode cX12_laysPins 17 = .ok (.iastore, 1) := by decide +kernel
theorem dX12_laysPins_18 : decode cX12_laysPins 18 = .ok (.iload_n 2, 1) := by decide +kernel
theorem dX12_laysPins_19 : decode cX12_laysPins 19 = .ok (.iconst 1, 1) := by decide +kernel
theorem dX12_laysPins_20 : decode cX12_laysPins 20 = .ok (.isub, 1) := by decide +kernel
theorem dX12_laysPins_21 : decode cX12_laysPins 21 = .ok (.istore_n 3, 1) := by decide +kernel
theorem dX12_laysPins_22 : decode cX12_laysPins 22 = .ok (.iload_n 3, 1) := by decide +kernel
theorem dX12_laysPins_23 : decode cX12_laysPins 23 = .ok (.ifCond .lt 73, 3) := by decide +kernel
theorem dX12_laysPins_26 : decode cX12_laysPins 26 = .ok (.ldc_w 318, 3) := by decide +kernel
theorem dX12_laysPins_29 : decode cX12_laysPins 29 = .ok (.istore 4, 2) := by decide +kernel
theorem dX12_laysPins_31 : decode cX12_laysPins 31 = .ok (.iload_n 3, 1) := by decide +kernel
theorem dX12_laysPins_32 : decode cX12_laysPins 32 = .ok (.iconst 1, 1) := by decide +kernel
theorem dX12_laysPins_33 : decode cX12_laysPins 33 = .ok (.iadd, 1) := by decide +kernel
theorem dX12_laysPins_34 : decode cX12_laysPins 34 = .ok (.istore 5, 2) := by decide +kernel
theorem dX12_laysPins_36 : decode cX12_laysPins 36 = .ok (.iload 5, 2) := by decide +kernel
theorem dX12_laysPins_38 : decode cX12_laysPins 38 = .ok (.iload_n 2, 1) := by decide +kernel
theorem dX12_laysPins_39 : decode cX12_laysPins 39 = .ok (.if_icmp .gt 41, 3) := by decide +kernel
theorem dX12_laysPins_42 : decode cX12_laysPins 42 = .ok (.aload_n 0, 1) := by decide +kernel
theorem dX12_laysPins_43 : decode cX12_laysPins 43 = .ok (.getfield 68, 3) := by decide +kernel
theorem dX12_laysPins_46 : decode cX12_laysPins 46 = .ok (.iload 5, 2) := by decide +kernel
theorem dX12_laysPins_48 : decode cX12_laysPins 48 = .ok (.iaload, 1) := by decide +kernel
theorem dX12_laysPins_49 : decode cX12_laysPins 49 = .ok (.iload 4, 2) := by decide +kernel
theorem dX12_laysPins_51 : decode cX12_laysPins 51 = .ok (.if_icmp .ge 23, 3) := by decide +kernel
theorem dX12_laysPins_54 : decode cX12_laysPins 54 = .ok (.aload_n 0, 1) := by decide +kernel
theorem dX12_laysPins_55 : decode cX12_laysPins 55 = .ok (.iload_n 3, 1) := by decide +kernel
theorem dX12_laysPins_56 : decode cX12_laysPins 56 = .ok (.iload 5, 2) := by decide +kernel
theorem dX12_laysPins_58 : decode cX12_laysPins 58 = .ok (.invokevirtual 328, 3) := by decide +kernel
theorem dX12_laysPins_61 : decode cX12_laysPins 61 = .ok (.iload_n 1, 1) := by decide +kernel
theorem dX12_laysPins_62 : decode cX12_laysPins 62 = .ok (.if_icmp .gt 12, 3) := by decide +kernel
theorem dX12_laysPins_65 : decode cX12_laysPins 65 = .ok (.aload_n 0, 1) := by decide +kernel
theorem dX12_laysPins_66 : decode cX12_laysPins 66 = .ok (.getfield 68, 3) := by decide +kernel
theorem dX12_laysPins_69 : decode cX12_laysPins 69 = .ok (.iload 5, 2) := by decide +kernel
theorem dX12_laysPins_71 : decode cX12_laysPins 71 = .ok (.iaload, 1) := by decide +kernel
theorem dX12_laysPins_72 : decode cX12_laysPins 72 = .ok (.istore 4, 2) := by decide +kernel
theorem dX12_laysPins_74 : decode cX12_laysPins 74 = .ok (.iinc 5 1, 3) := by decide +kernel
theorem dX12_laysPins_77 : decode cX12_laysPins 77 = .ok (.goto (-41), 3) := by decide +kernel
theorem dX12_laysPins_80 : decode cX12_laysPins 80 = .ok (.aload_n 0, 1) := by decide +kernel
theorem dX12_laysPins_81 : decode cX12_laysPins 81 = .ok (.getfield 68, 3) := by decide +kernel
theorem dX12_laysPins_84 : decode cX12_laysPins 84 = .ok (.iload_n 3, 1) := by decide +kernel
theorem dX12_laysPins_85 : decode cX12_laysPins 85 = .ok (.iload 4, 2) := by decide +kernel
theorem dX12_laysPins_87 : decode cX12_laysPins 87 = .ok (.iconst 1, 1) := by decide +kernel
theorem dX12_laysPins_88 : decode cX12_laysPins 88 = .ok (.iadd, 1) := by decide +kernel
theorem dX12_laysPins_89 : decode cX12_laysPins 89 = .ok (.iastore, 1) := by decide +kernel
theorem dX12_laysPins_90 : decode cX12_laysPins 90 = .ok (.iinc 3 (-1), 3) := by decide +kernel
theorem dX12_laysPins_93 : decode cX12_laysPins 93 = .ok (.goto (-71), 3) := by decide +kernel
theorem dX12_laysPins_96 : decode cX12_laysPins 96 = .ok (.iconst 1, 1) := by decide +kernel
theorem dX12_laysPins_97 : decode cX12_laysPins 97 = .ok (.istore_n 3, 1) := by decide +kernel
theorem dX12_laysPins_98 : decode cX12_laysPins 98 = .ok (.aload_n 0, 1) := by decide +kernel
theorem dX12_laysPins_99 : decode cX12_laysPins 99 = .ok (.getfield 71, 3) := by decide +kernel
theorem dX12_laysPins_102 : decode cX12_laysPins 102 = .ok (.iconst 0, 1) := by decide +kernel
theorem dX12_laysPins_103 : decode cX12_laysPins 103 = .ok (.iconst 0, 1) := by decide +kernel
theorem dX12_laysPins_104 : decode cX12_laysPins 104 = .ok (.iastore, 1) := by decide +kernel
theorem dX12_laysPins_105 : decode cX12_laysPins 105 = .ok (.aload_n 0, 1) := by decide +kernel
theorem dX12_laysPins_106 : decode cX12_laysPins 106 = .ok (.getfield 71, 3) := by decide +kernel
theorem dX12_laysPins_109 : decode cX12_laysPins 109 = .ok (.iload_n 3, 1) := by decide +kernel
theorem dX12_laysPins_110 : decode cX12_laysPins 110 = .ok (.iconst 1, 1) := by decide +kernel
theorem dX12_laysPins_111 : decode cX12_laysPins 111 = .ok (.isub, 1) := by decide +kernel
theorem dX12_laysPins_112 : decode cX12_laysPins 112 = .ok (.iaload, 1) := by decide +kernel
theorem dX12_laysPins_113 : decode cX12_laysPins 113 = .ok (.iload_n 2, 1) := by decide +kernel
theorem dX12_laysPins_114 : decode cX12_laysPins 114 = .ok (.if_icmp .ge 74, 3) := by decide +kernel
theorem dX12_laysPins_117 : decode cX12_laysPins 117 = .ok (.aload_n 0, 1) := by decide +kernel
theorem dX12_laysPins_118 : decode cX12_laysPins 118 = .ok (.getfield 71, 3) := by decide +kernel
theorem dX12_laysPins_121 : decode cX12_laysPins 121 = .ok (.iload_n 3, 1) := by decide +kernel
theorem dX12_laysPins_122 : decode cX12_laysPins 122 = .ok (.iconst 1, 1) := by decide +kernel
theorem dX12_laysPins_123 : decode cX12_laysPins 123 = .ok (.isub, 1) := by decide +kernel
theorem dX12_laysPins_124 : decode cX12_laysPins 124 = .ok (.iaload, 1) := by decide +kernel
theorem dX12_laysPins_125 : decode cX12_laysPins 125 = .ok (.istore 4, 2) := by decide +kernel
theorem dX12_laysPins_127 : decode cX12_laysPins 127 = .ok (.iload 4, 2) := by decide +kernel
theorem dX12_laysPins_129 : decode cX12_laysPins 129 = .ok (.iconst 1, 1) := by decide +kernel
theorem dX12_laysPins_130 : decode cX12_laysPins 130 = .ok (.iadd, 1) := by decide +kernel
theorem dX12_laysPins_131 : decode cX12_laysPins 131 = .ok (.istore 5, 2) := by decide +kernel
theorem dX12_laysPins_133 : decode cX12_laysPins 133 = .ok (.aload_n 0, 1) := by decide +kernel
theorem dX12_laysPins_134 : decode cX12_laysPins 134 = .ok (.getfield 68, 3) := by decide +kernel
theorem dX12_laysPins_137 : decode cX12_laysPins 137 = .ok (.iload 5, 2) := by decide +kernel
theorem dX12_laysPins_139 : decode cX12_laysPins 139 = .ok (.iaload, 1) := by decide +kernel
theorem dX12_laysPins_140 : decode cX12_laysPins 140 = .ok (.aload_n 0, 1) := by decide +kernel
theorem dX12_laysPins_141 : decode cX12_laysPins 141 = .ok (.getfield 68, 3) := by decide +kernel
theorem dX12_laysPins_144 : decode cX12_laysPins 144 = .ok (.iload 4, 2) := by decide +kernel
theorem dX12_laysPins_146 : decode cX12_laysPins 146 = .ok (.iaload, 1) := by decide +kernel
theorem dX12_laysPins_147 : decode cX12_laysPins 147 = .ok (.iconst 1, 1) := by decide +kernel
theorem dX12_laysPins_148 : decode cX12_laysPins 148 = .ok (.isub, 1) := by decide +kernel
theorem dX12_laysPins_149 : decode cX12_laysPins 149 = .ok (.if_icmp .ne 15, 3) := by decide +kernel
theorem dX12_laysPins_152 : decode cX12_laysPins 152 = .ok (.aload_n 0, 1) := by decide +kernel
theorem dX12_laysPins_153 : decode cX12_laysPins 153 = .ok (.iload 4, 2) := by decide +kernel
theorem dX12_laysPins_155 : decode cX12_laysPins 155 = .ok (.iload 5, 2) := by decide +kernel
theorem dX12_laysPins_157 : decode cX12_laysPins 157 = .ok (.invokevirtual 328, 3) := by decide +kernel
theorem dX12_laysPins_160 : decode cX12_laysPins 160 = .ok (.iload_n 1, 1) := by decide +kernel
theorem dX12_laysPins_161 : decode cX12_laysPins 161 = .ok (.if_icmp .le 12, 3) := by decide +kernel
theorem dX12_laysPins_164 : decode cX12_laysPins 164 = .ok (.iload 5, 2) := by decide +kernel
theorem dX12_laysPins_166 : decode cX12_laysPins 166 = .ok (.iconst 1, 1) := by decide +kernel
theorem dX12_laysPins_167 : decode cX12_laysPins 167 = .ok (.iadd, 1) := by decide +kernel
theorem dX12_laysPins_168 : decode cX12_laysPins 168 = .ok (.istore 5, 2) := by decide +kernel
theorem dX12_laysPins_170 : decode cX12_laysPins 170 = .ok (.goto (-37), 3) := by decide +kernel
theorem dX12_laysPins_173 : decode cX12_laysPins 173 = .ok (.aload_n 0, 1) := by decide +kernel
theorem dX12_laysPins_174 : decode cX12_laysPins 174 = .ok (.getfield 71, 3) := by decide +kernel
theorem dX12_laysPins_177 : decode cX12_laysPins 177 = .ok (.iload_n 3, 1) := by decide +kernel
theorem dX12_laysPins_178 : decode cX12_laysPins 178 = .ok (.iload 5, 2) := by decide +kernel
theorem dX12_laysPins_180 : decode cX12_laysPins 180 = .ok (.iastore, 1) := by decide +kernel
theorem dX12_laysPins_181 : decode cX12_laysPins 181 = .ok (.iload_n 3, 1) := by decide +kernel
theorem dX12_laysPins_182 : decode cX12_laysPins 182 = .ok (.iconst 1, 1) := by decide +kernel
theorem dX12_laysPins_183 : decode cX12_laysPins 183 = .ok (.iadd, 1) := by decide +kernel
theorem dX12_laysPins_184 : decode cX12_laysPins 184 = .ok (.istore_n 3, 1) := by decide +kernel
theorem dX12_laysPins_185 : decode cX12_laysPins 185 = .ok (.goto (-80), 3) := by decide +kernel
theorem dX12_laysPins_188 : decode cX12_laysPins 188 = .ok (.iload_n 3, 1) := by decide +kernel
theorem dX12_laysPins_189 : decode cX12_laysPins 189 = .ok (.ireturn, 1) := by decide +kernel
def md_X12_laysPins : List (Nat × Nat) := [(165, 0), (166, 0)]
set_option maxRecDepth 100000 in
set_option maxHeartbeats 4000000 in
theorem c_X12_laysPins {l : Launch} {D : q_D} (τ : q_T) (σ : q_V) (a0 : Nat) (x1 : Int32) (hI : q_I τ σ) (tA0 : τ a0 = some (10, 1)) (rA1 : q_r x1 0 99) : q_Ci l D yX12_laysPins cX12_laysPins 6 (some .int) 2 47 τ σ [.ref a0, .int x1] (fun r σ1 => q_S md_X12_laysPins τ σ σ1 ∧ (q_r r 1 64) ∧ (∀ b : Nat, σ a0 32 = .ref b → q_ct σ1 b r)) := by
  refine q_meti rfl (Nat.le_of_ble_eq_true rfl) (fun X hG hE => ?_)
  show q_O X 0 0 τ σ 0 [(0, .ref a0), (1, .int x1)] []
  have hS0 : q_S md_X12_laysPins τ σ σ := q_S.rf hI
  obtain ⟨q_1b, q_1f, q_1T⟩ := (hI a0 10 1 tA0 0 (by decide)).ref (k := 100) (n := 549) rfl
  obtain ⟨q_2b, q_2f, q_2T⟩ := (hI a0 10 1 tA0 31 (by decide)).ref (k := 165) (n := 64) rfl
  obtain ⟨q_3b, q_3f, q_3T⟩ := (hI a0 10 1 tA0 32 (by decide)).ref (k := 166) (n := 64) rfl
  refine q_aload_n (pc := 0) hG dX12_laysPins_0 0 rfl ?_
  refine q_getV (pc := 1) (v := .ref q_1b) hG fl_X12_7 dX12_laysPins_1 tA0 q_1f ?_
  refine q_sipush (pc := 4) hG dX12_laysPins_4 ks_512 ?_
  refine q_naldc (pc := 7) (a1 := 8) (a2 := 64) hG dX12_laysPins_7 hI q_1T (q_ix rl_512 (by decide)) rfl (fun v7 f7 g7 => ?_)
  refine q_iconst (pc := 8) hG dX12_laysPins_8 ki_1 ?_
  refine q_isub (pc := 9) hG dX12_laysPins_9 (fun v9 e9 => ?_)
  refine q_istore_n (pc := 10) [(2, .int v9), (0, .ref a0), (1, .int x1)] hG dX12_laysPins_10 (by decide) rfl ?_
  refine q_aload_n (pc := 11) hG dX12_laysPins_11 1 rfl ?_
  refine q_getV (pc := 12) (v := .ref q_2b) hG fl_X12_68 dX12_laysPins_12 tA0 q_2f ?_
  refine q_iload_n (pc := 15) hG dX12_laysPins_15 0 rfl ?_
  refine q_iconst (pc := 16) hG dX12_laysPins_16 ki_1 ?_
  have r_4 := (q_subN (lo := 7) (hi := 63) e9 g7 rl_1 (by decide)).2
  refine q_iast (pc := 17) hG dX12_laysPins_17 hS0 ai_165 q_2T (q_ix r_4 (by decide)) rl_1 (by decide) rfl (fun s17 u17 w17 => ?_)
  have m17 : s17 q_2b v9.toInt.toNat = .int 1 := by rw [u17]; exact q_up_same
  refine q_iload_n (pc := 18) hG dX12_laysPins_18 0 rfl ?_
  refine q_iconst (pc := 19) hG dX12_laysPins_19 ki_1 ?_
  refine q_isub (pc := 20) hG dX12_laysPins_20 (fun v20 e20 => ?_)
  refine q_istore_n (pc := 21) [(3, .int v20), (2, .int v9), (0, .ref a0), (1, .int x1)] hG dX12_laysPins_21 (by decide) rfl ?_
  have J22 : ∀ (n22 : Nat) (p22_3 : Int32) (σ22 : q_V), (q_r p22_3 (-1) 62) → (q_S md_X12_laysPins τ σ σ22) → (q_pp (σ q_1b) (σ22 q_2b) x1.toInt v9.toInt p22_3.toInt) → (p22_3.toInt ≤ v9.toInt - 1) → ((p22_3.toInt - (-1)).toNat < n22) → q_O X 0 0 τ σ22 22 [(0, .ref a0), (1, .int x1), (2, .int v9), (3, .int p22_3)] [] := by
    intro n22
    induction n22 with
    | zero => intro p22_3 σ22 r22_3 hS22 iP22 iK22 hm22; exact absurd hm22 (Nat.not_lt_zero _)
    | succ n22 ih22 =>
      intro p22_3 σ22 r22_3 hS22 iP22 iK22 hm22
      refine q_iload_n (pc := 22) hG dX12_laysPins_22 3 rfl ?_
      refine q_if_lt (pc := 23) hG 96 dX12_laysPins_23 rfl ?_ ?_
      · intro c23
        refine q_iconst (pc := 96) hG dX12_laysPins_96 ki_1 ?_
        refine q_istore_n (pc := 97) [(3, .int 1), (0, .ref a0), (1, .int x1), (2, .int v9)] hG dX12_laysPins_97 (by decide) rfl ?_
        refine q_aload_n (pc := 98) hG dX12_laysPins_98 1 rfl ?_
        refine q_getV (pc := 99) (v := .ref q_3b) hG fl_X12_71 dX12_laysPins_99 tA0 (hS22.same tA0 rfl q_3f) ?_
        refine q_iconst (pc := 102) hG dX12_laysPins_102 ki_0 ?_
        refine q_iconst (pc := 103) hG dX12_laysPins_103 ki_0 ?_
        refine q_iast (pc := 104) hG dX12_laysPins_104 hS22 ai_166 q_3T (q_ix rl_0 (by decide)) rl_0 (by decide) rfl (fun s104 u104 w104 => ?_)
        have m104 : s104 q_3b (0 : Int32).toInt.toNat = .int 0 := by rw [u104]; exact q_up_same
        have J105 : ∀ (n105 : Nat) (p105_3 : Int32) (σ105 : q_V) (I105 : Int32), (q_r p105_3 1 64) → (q_S md_X12_laysPins τ σ σ105) → (q_ct σ105 q_3b p105_3 ∧ q_pp (σ q_1b) (σ105 q_2b) x1.toInt v9.toInt (-1) ∧ (σ105 q_3b (p105_3.toInt - 1).toNat = .int I105 ∧ p105_3.toInt - 1 ≤ I105.toInt ∧ I105.toInt ≤ v9.toInt)) → ((64 - I105.toInt).toNat < n105) → q_O X 0 0 τ σ105 105 [(0, .ref a0), (1, .int x1), (2, .int v9), (3, .int p105_3)] [] := by
          intro n105
          induction n105 with
          | zero => intro p105_3 σ105 I105 r105_3 hS105 iC105 hm105; exact absurd hm105 (Nat.not_lt_zero _)
          | succ n105 ih105 =>
            intro p105_3 σ105 I105 r105_3 hS105 iC105 hm105
            refine q_aload_n (pc := 105) hG dX12_laysPins_105 0 rfl ?_
            refine q_getV (pc := 106) (v := .ref q_3b) hG fl_X12_71 dX12_laysPins_106 tA0 (hS105.same tA0 rfl q_3f) ?_
            refine q_iload_n (pc := 109) hG dX12_laysPins_109 3 rfl ?_
            refine q_iconst (pc := 110) hG dX12_laysPins_110 ki_1 ?_
            refine q_isub (pc := 111) hG dX12_laysPins_111 (fun v111 e111 => ?_)
            have r_5 := (q_subN (lo := 0) (hi := 63) e111 r105_3 rl_1 (by decide)).2
            refine q_iald (pc := 112) hG dX12_laysPins_112 hS105.1 ai_166 q_3T (q_ix r_5 (by decide)) (fun v112 f112 g112 => ?_)
            have r_6 := q_zlt r22_3 c23
            have r_7 := (q_subN (lo := 6) (hi := 62) e20 r_4 rl_1 (by decide)).2
            have i112 : I105 = v112 := by have q := iC105.2.2.1; rw [show p105_3.toInt - 1 = v111.toInt from (by have o0 := iC105.2.2.2; have o1 := (q_subN (lo := 0) (hi := 63) e111 r105_3 rl_1 (by decide)).1; have o2 := (q_subN (lo := 7) (hi := 63) e9 g7 rl_1 (by decide)).1; have o3 := (q_subN (lo := 6) (hi := 62) e20 r_4 rl_1 (by decide)).1; have o4 := iK22; have o5 := c23; have o6 := r105_3; have o7 := r_6; have o8 := r_5; have o9 := r_7; have o10 := g7; have o11 := r_4; have l12 := tl_1; unfold q_r at o6 o7 o8 o9 o10 o11; omega)] at q; cases q.symm.trans f112; rfl
            have k112 := congrArg Int32.toInt i112
            have r112 : q_r v112 0 63 := ⟨(by have o0 := iC105.2.2.2; have o1 := (q_subN (lo := 0) (hi := 63) e111 r105_3 rl_1 (by decide)).1; have o2 := (q_subN (lo := 7) (hi := 63) e9 g7 rl_1 (by decide)).1; have o3 := (q_subN (lo := 6) (hi := 62) e20 r_4 rl_1 (by decide)).1; have o4 := iK22; have o5 := c23; have o6 := r105_3; have o7 := r_6; have o8 := r_5; have o9 := r_7; have o10 := g7; have o11 := r_4; have l12 := tl_1; unfold q_r at o6 o7 o8 o9 o10 o11; have g := k112; omega), (by have o0 := (q_subN (lo := 7) (hi := 63) e9 g7 rl_1 (by decide)).1; have o1 := (q_subN (lo := 6) (hi := 62) e20 r_4 rl_1 (by decide)).1; have o2 := iK22; have o3 := c23; have o4 := iC105.2.2.2; have o5 := (q_subN (lo := 0) (hi := 63) e111 r105_3 rl_1 (by decide)).1; have o6 := r105_3; have o7 := r_6; have o8 := r_5; have o9 := r_7; have o10 := g7; have o11 := r_4; have l12 := tl_1; unfold q_r at o6 o7 o8 o9 o10 o11; have g := k112; omega)⟩
            refine q_iload_n (pc := 113) hG dX12_laysPins_113 2 rfl ?_
            refine q_icmp_ge (pc := 114) hG 188 dX12_laysPins_114 rfl ?_ ?_
            · intro c114
              refine q_iload_n (pc := 188) hG dX12_laysPins_188 3 rfl ?_
              exact q_irt hG hE dX12_laysPins_189 ⟨hS105, r105_3, (fun b hb => by cases hb.symm.trans q_3f; exact iC105.1)⟩
            intro c114
            refine q_aload_n (pc := 117) hG dX12_laysPins_117 0 rfl ?_
            refine q_getV (pc := 118) (v := .ref q_3b) hG fl_X12_71 dX12_laysPins_118 tA0 (hS105.same tA0 rfl q_3f) ?_
            refine q_iload_n (pc := 121) hG dX12_laysPins_121 3 rfl ?_
            refine q_iconst (pc := 122) hG dX12_laysPins_122 ki_1 ?_
            refine q_isub (pc := 123) hG dX12_laysPins_123 (fun v123 e123 => ?_)
            rw [e123.trans e111.symm]
            refine q_ialdV (pc := 124) (v := .int v112) hG dX12_laysPins_124 q_3T (by decide) (by decide) (q_ix r_5 (by decide)) f112 ?_
            refine q_istore (pc := 125) [(4, .int v112), (0, .ref a0), (1, .int x1), (2, .int v9), (3, .int p105_3)] hG dX12_laysPins_125 (by decide) rfl ?_
            refine q_iload (pc := 127) hG dX12_laysPins_127 0 rfl ?_
            refine q_iconst (pc := 129) hG dX12_laysPins_129 ki_1 ?_
            refine q_iadd (pc := 130) hG dX12_laysPins_130 (fun v130 e130 => ?_)
            have r_8 := q_rlt r112 r_4 c114 62 (by decide)
            refine q_istore (pc := 131) [(5, .int v130), (4, .int v112), (0, .ref a0), (1, .int x1), (2, .int v9), (3, .int p105_3)] hG dX12_laysPins_131 (by decide) rfl ?_
            have r_9 := (q_addN (lo := 1) (hi := 63) e130 r_8 rl_1 (by decide)).2
            have g131 := iC105.2.1 v112.toInt (by have o0 := k112; have o1 := c114; have o2 := (q_addN (lo := 1) (hi := 63) e130 r_8 rl_1 (by decide)).1; have o3 := (q_subN (lo := 7) (hi := 63) e9 g7 rl_1 (by decide)).1; have o4 := (q_subN (lo := 6) (hi := 62) e20 r_4 rl_1 (by decide)).1; have o5 := iK22; have o6 := c23; have o7 := iC105.2.2.2; have o8 := (q_subN (lo := 0) (hi := 63) e111 r105_3 rl_1 (by decide)).1; have o9 := r105_3; have o10 := r_6; have o11 := r_5; have o12 := r_8; have o13 := r_9; have o14 := r_7; have o15 := g7; have o16 := r_4; have l17 := tl_1; unfold q_r at o9 o10 o11 o12 o13 o14 o15 o16; omega) (by have o0 := (q_subN (lo := 7) (hi := 63) e9 g7 rl_1 (by decide)).1; have o1 := (q_subN (lo := 6) (hi := 62) e20 r_4 rl_1 (by decide)).1; have o2 := iK22; have o3 := c23; have o4 := iC105.2.2.2; have o5 := (q_subN (lo := 0) (hi := 63) e111 r105_3 rl_1 (by decide)).1; have o6 := k112; have o7 := c114; have o8 := (q_addN (lo := 1) (hi := 63) e130 r_8 rl_1 (by decide)).1; have o9 := r105_3; have o10 := r_6; have o11 := r_5; have o12 := r_8; have o13 := r_9; have o14 := r_7; have o15 := g7; have o16 := r_4; have l17 := tl_1; unfold q_r at o9 o10 o11 o12 o13 o14 o15 o16; omega)
            obtain ⟨js, j1, j2, j3, j4, j5, j6⟩ := g131.2 (by have o0 := (q_subN (lo := 7) (hi := 63) e9 g7 rl_1 (by decide)).1; have o1 := (q_subN (lo := 6) (hi := 62) e20 r_4 rl_1 (by decide)).1; have o2 := iK22; have o3 := c23; have o4 := iC105.2.2.2; have o5 := (q_subN (lo := 0) (hi := 63) e111 r105_3 rl_1 (by decide)).1; have o6 := k112; have o7 := c114; have o8 := (q_addN (lo := 1) (hi := 63) e130 r_8 rl_1 (by decide)).1; have o9 := r105_3; have o10 := r_6; have o11 := r_5; have o12 := r_8; have o13 := r_9; have o14 := r_7; have o15 := g7; have o16 := r_4; have l17 := tl_1; unfold q_r at o9 o10 o11 o12 o13 o14 o15 o16; omega)
            have g132 := g131.1
            have J133 : ∀ (n133 : Nat) (p133_5 : Int32), (q_r p133_5 1 63) → (p133_5.toInt ≤ js ∧ v112.toInt < p133_5.toInt) → ((js - p133_5.toInt).toNat < n133) → q_O X 0 0 τ σ105 133 [(0, .ref a0), (1, .int x1), (2, .int v9), (3, .int p105_3), (4, .int v112), (5, .int p133_5)] [] := by
              intro n133
              induction n133 with
              | zero => intro p133_5 r133_5 iJ133 hm133; exact absurd hm133 (Nat.not_lt_zero _)
              | succ n133 ih133 =>
                intro p133_5 r133_5 iJ133 hm133
                refine q_aload_n (pc := 133) hG dX12_laysPins_133 0 rfl ?_
                refine q_getV (pc := 134) (v := .ref q_2b) hG fl_X12_68 dX12_laysPins_134 tA0 (hS105.same tA0 rfl q_2f) ?_
                refine q_iload (pc := 137) hG dX12_laysPins_137 5 rfl ?_
                refine q_iald (pc := 139) hG dX12_laysPins_139 hS105.1 ai_165 q_2T (q_ix r133_5 (by decide)) (fun v139 f139 g139 => ?_)
                refine q_aload_n (pc := 140) hG dX12_laysPins_140 0 rfl ?_
                refine q_getV (pc := 141) (v := .ref q_2b) hG fl_X12_68 dX12_laysPins_141 tA0 (hS105.same tA0 rfl q_2f) ?_
                refine q_iload (pc := 144) hG dX12_laysPins_144 4 rfl ?_
                refine q_iald (pc := 146) hG dX12_laysPins_146 hS105.1 ai_165 q_2T (q_ix r_8 (by decide)) (fun v146 f146 g146 => ?_)
                have iv146 : q_iv (σ105 q_2b) v112.toInt = v146.toInt := q_iv_at f146
                have g146 := g132
                rw [iv146] at g146
                have r146 : q_r v146 1 64 := ⟨g146.1, (by have o0 := (q_subN (lo := 7) (hi := 63) e9 g7 rl_1 (by decide)).1; have o1 := (q_subN (lo := 6) (hi := 62) e20 r_4 rl_1 (by decide)).1; have o2 := iK22; have o3 := c23; have o4 := iC105.2.2.2; have o5 := (q_subN (lo := 0) (hi := 63) e111 r105_3 rl_1 (by decide)).1; have o6 := k112; have o7 := c114; have o8 := (q_addN (lo := 1) (hi := 63) e130 r_8 rl_1 (by decide)).1; have o9 := j1; have o10 := j2; have o11 := iJ133; have o12 := r105_3; have o13 := r133_5; have o14 := r_6; have o15 := r_5; have o16 := r_8; have o17 := r_9; have o18 := r_7; have o19 := g7; have o20 := r_4; have l21 := tl_1; unfold q_r at o12 o13 o14 o15 o16 o17 o18 o19 o20; have g := g146; omega)⟩
                refine q_iconst (pc := 147) hG dX12_laysPins_147 ki_1 ?_
                refine q_isub (pc := 148) hG dX12_laysPins_148 (fun v148 e148 => ?_)
                have J164 : (p133_5.toInt < js) → q_O X 0 0 τ σ105 164 [(0, .ref a0), (1, .int x1), (2, .int v9), (3, .int p105_3), (4, .int v112), (5, .int p133_5)] [] := by
                  intro iJ164
                  refine q_iload (pc := 164) hG dX12_laysPins_164 5 rfl ?_
                  refine q_iconst (pc := 166) hG dX12_laysPins_166 ki_1 ?_
                  refine q_iadd (pc := 167) hG dX12_laysPins_167 (fun v167 e167 => ?_)
                  refine q_istore (pc := 168) [(5, .int v167), (0, .ref a0), (1, .int x1), (2, .int v9), (3, .int p105_3), (4, .int v112)] hG dX12_laysPins_168 (by decide) rfl ?_
                  refine q_goto (pc := 170) 133 hG dX12_laysPins_170 rfl ?_
                  refine q_lv [1, 2, 3, 4, 5, 0] rfl ?_
                  have r_10 := (q_addN (lo := 2) (hi := 64) e167 r133_5 rl_1 (by decide)).2
                  exact ih133 v167 (show q_r v167 1 63 from ⟨(by have o0 := (q_addN (lo := 2) (hi := 64) e167 r133_5 rl_1 (by decide)).1; have o1 := iJ133; have o2 := iJ164; have o3 := k112; have o4 := c114; have o5 := (q_addN (lo := 1) (hi := 63) e130 r_8 rl_1 (by decide)).1; have o6 := j1; have o7 := j2; have o8 := (q_subN (lo := 7) (hi := 63) e9 g7 rl_1 (by decide)).1; have o9 := (q_subN (lo := 6) (hi := 62) e20 r_4 rl_1 (by decide)).1; have o10 := iK22; have o11 := c23; have o12 := iC105.2.2.2; have o13 := (q_subN (lo := 0) (hi := 63) e111 r105_3 rl_1 (by decide)).1; have o14 := r105_3; have o15 := r133_5; have o16 := r_6; have o17 := r_5; have o18 := r_8; have o19 := r_9; have o20 := r_10; have o21 := r_7; have o22 := g7; have o23 := r_4; have l24 := tl_1; unfold q_r at o14 o15 o16 o17 o18 o19 o20 o21 o22 o23; omega), (by have o0 := (q_addN (lo := 2) (hi := 64) e167 r133_5 rl_1 (by decide)).1; have o1 := iJ133; have o2 := iJ164; have o3 := k112; have o4 := c114; have o5 := (q_addN (lo := 1) (hi := 63) e130 r_8 rl_1 (by decide)).1; have o6 := j1; have o7 := j2; have o8 := (q_subN (lo := 7) (hi := 63) e9 g7 rl_1 (by decide)).1; have o9 := (q_subN (lo := 6) (hi := 62) e20 r_4 rl_1 (by decide)).1; have o10 := iK22; have o11 := c23; have o12 := iC105.2.2.2; have o13 := (q_subN (lo := 0) (hi := 63) e111 r105_3 rl_1 (by decide)).1; have o14 := r105_3; have o15 := r133_5; have o16 := r_6; have o17 := r_5; have o18 := r_8; have o19 := r_9; have o20 := r_10; have o21 := r_7; have o22 := g7; have o23 := r_4; have l24 := tl_1; unfold q_r at o14 o15 o16 o17 o18 o19 o20 o21 o22 o23; omega)⟩) ⟨(by have o0 := k112; have o1 := c114; have o2 := (q_addN (lo := 1) (hi := 63) e130 r_8 rl_1 (by decide)).1; have o3 := j1; have o4 := j2; have o5 := iJ133; have o6 := iJ164; have o7 := (q_addN (lo := 2) (hi := 64) e167 r133_5 rl_1 (by decide)).1; have o8 := (q_subN (lo := 7) (hi := 63) e9 g7 rl_1 (by decide)).1; have o9 := (q_subN (lo := 6) (hi := 62) e20 r_4 rl_1 (by decide)).1; have o10 := iK22; have o11 := c23; have o12 := iC105.2.2.2; have o13 := (q_subN (lo := 0) (hi := 63) e111 r105_3 rl_1 (by decide)).1; have o14 := r105_3; have o15 := r133_5; have o16 := r_6; have o17 := r_5; have o18 := r_8; have o19 := r_9; have o20 := r_10; have o21 := r_7; have o22 := g7; have o23 := r_4; have l24 := tl_1; unfold q_r at o14 o15 o16 o17 o18 o19 o20 o21 o22 o23; omega), (by have o0 := k112; have o1 := c114; have o2 := (q_addN (lo := 1) (hi := 63) e130 r_8 rl_1 (by decide)).1; have o3 := j1; have o4 := j2; have o5 := iJ133; have o6 := iJ164; have o7 := (q_addN (lo := 2) (hi := 64) e167 r133_5 rl_1 (by decide)).1; have o8 := (q_subN (lo := 7) (hi := 63) e9 g7 rl_1 (by decide)).1; have o9 := (q_subN (lo := 6) (hi := 62) e20 r_4 rl_1 (by decide)).1; have o10 := iK22; have o11 := c23; have o12 := iC105.2.2.2; have o13 := (q_subN (lo := 0) (hi := 63) e111 r105_3 rl_1 (by decide)).1; have o14 := r105_3; have o15 := r133_5; have o16 := r_6; have o17 := r_5; have o18 := r_8; have o19 := r_9; have o20 := r_10; have o21 := r_7; have o22 := g7; have o23 := r_4; have l24 := tl_1; unfold q_r at o14 o15 o16 o17 o18 o19 o20 o21 o22 o23; omega)⟩ (by have o0 := j1; have o1 := j2; have o2 := iJ133; have o3 := iJ164; have o4 := (q_addN (lo := 2) (hi := 64) e167 r133_5 rl_1 (by decide)).1; have o5 := (q_subN (lo := 7) (hi := 63) e9 g7 rl_1 (by decide)).1; have o6 := (q_subN (lo := 6) (hi := 62) e20 r_4 rl_1 (by decide)).1; have o7 := iK22; have o8 := c23; have o9 := iC105.2.2.2; have o10 := (q_subN (lo := 0) (hi := 63) e111 r105_3 rl_1 (by decide)).1; have o11 := k112; have o12 := c114; have o13 := (q_addN (lo := 1) (hi := 63) e130 r_8 rl_1 (by decide)).1; have o14 := r105_3; have o15 := r133_5; have o16 := r_6; have o17 := r_5; have o18 := r_8; have o19 := r_9; have o20 := r_10; have o21 := r_7; have o22 := g7; have o23 := r_4; have l24 := tl_1; have o25 := hm133; unfold q_r at o14 o15 o16 o17 o18 o19 o20 o21 o22 o23; omega)
                refine q_icmp_ne (pc := 149) hG 164 dX12_laysPins_149 rfl ?_ ?_
                · intro c149
                  have r_11 := (q_subN (lo := 0) (hi := 63) e148 r146 rl_1 (by decide)).2
                  refine q_lv [0, 1, 2, 3, 4, 5] rfl ?_
                  exact J164 ((Int.lt_or_eq_of_le iJ133.1).elim id (fun h => absurd j4 (by rw [← h, iv146, show q_iv (σ105 q_2b) p133_5.toInt = v139.toInt from q_iv_at f139]; exact (by have o0 := (q_subN (lo := 0) (hi := 63) e148 r146 rl_1 (by decide)).1; have o1 := c149; have o2 := g139; have o3 := r146; have o4 := r_11; have l5 := tl_1; unfold q_r at o2 o3 o4; omega))))
                intro c149
                have r_12 := (q_subN (lo := 0) (hi := 63) e148 r146 rl_1 (by decide)).2
                refine q_aload_n (pc := 152) hG dX12_laysPins_152 0 rfl ?_
                refine q_iload (pc := 153) hG dX12_laysPins_153 4 rfl ?_
                refine q_iload (pc := 155) hG dX12_laysPins_155 5 rfl ?_
                refine q_pV (pc := 157) [.int v112, .int p133_5] [] hG (c_X12_worst τ σ105 a0 v112 p133_5 hS105.1 tA0 (q_r.mono r_8 (by decide)) (q_r.mono r133_5 (by decide))) my_X12_worst mv_X12_worst w1055 dX12_laysPins_157 tA0 (by decide) rfl rfl (Nat.le_of_ble_eq_true rfl) (by decide) (fun v157 p157 => ?_)
                have ev157 := (p157.2 q_1b (hS105.same tA0 rfl q_1f))
                rw [((funext fun j => hS105.2.arr q_1T (by decide) rfl) : σ105 q_1b = σ q_1b)] at ev157
                refine q_iload_n (pc := 160) hG dX12_laysPins_160 1 rfl ?_
                refine q_icmp_le (pc := 161) hG 173 dX12_laysPins_161 rfl ?_ ?_
                · intro c161
                  refine q_aload_n (pc := 173) hG dX12_laysPins_173 0 rfl ?_
                  refine q_getV (pc := 174) (v := .ref q_3b) hG fl_X12_71 dX12_laysPins_174 tA0 (hS105.same tA0 rfl q_3f) ?_
                  refine q_iload_n (pc := 177) hG dX12_laysPins_177 3 rfl ?_
                  refine q_iload (pc := 178) hG dX12_laysPins_178 5 rfl ?_
                  refine q_iast (pc := 180) hG dX12_laysPins_180 hS105 ai_166 q_3T (by have o0 := iC105.2.2.2; have o1 := (q_subN (lo := 0) (hi := 63) e111 r105_3 rl_1 (by decide)).1; have o2 := k112; have o3 := c114; have o4 := (q_addN (lo := 1) (hi := 63) e130 r_8 rl_1 (by decide)).1; have o5 := j1; have o6 := j2; have o7 := iJ133; have o8 := (q_subN (lo := 7) (hi := 63) e9 g7 rl_1 (by decide)).1; have o9 := (q_subN (lo := 6) (hi := 62) e20 r_4 rl_1 (by decide)).1; have o10 := iK22; have o11 := c23; have o12 := r105_3; have o13 := r133_5; have o14 := r_6; have o15 := r_5; have o16 := r_8; have o17 := r_9; have o18 := r_7; have o19 := g7; have o20 := r_4; have l21 := tl_1; unfold q_r at o12 o13 o14 o15 o16 o17 o18 o19 o20; omega) r133_5 (by decide) rfl (fun s180 u180 w180 => ?_)
                  have m180 : s180 q_3b p105_3.toInt.toNat = .int p133_5 := by rw [u180]; exact q_up_same
                  refine q_iload_n (pc := 181) hG dX12_laysPins_181 3 rfl ?_
                  refine q_iconst (pc := 182) hG dX12_laysPins_182 ki_1 ?_
                  refine q_iadd (pc := 183) hG dX12_laysPins_183 (fun v183 e183 => ?_)
                  refine q_istore_n (pc := 184) [(3, .int v183), (0, .ref a0), (1, .int x1), (2, .int v9), (4, .int v112), (5, .int p133_5)] hG dX12_laysPins_184 (by decide) rfl ?_
                  refine q_goto (pc := 185) 105 hG dX12_laysPins_185 rfl ?_
                  refine q_lv [1, 2, 3, 0] rfl ?_
                  have r_13 := (q_addN (lo := 2) (hi := 65) e183 r105_3 rl_1 (by decide)).2
                  exact ih105 v183 s180 p133_5 (show q_r v183 1 64 from ⟨(by have o0 := (q_addN (lo := 2) (hi := 65) e183 r105_3 rl_1 (by decide)).1; have o1 := iC105.2.2.2; have o2 := (q_subN (lo := 0) (hi := 63) e111 r105_3 rl_1 (by decide)).1; have o3 := k112; have o4 := c114; have o5 := (q_addN (lo := 1) (hi := 63) e130 r_8 rl_1 (by decide)).1; have o6 := j1; have o7 := j2; have o8 := iJ133; have o9 := (q_subN (lo := 7) (hi := 63) e9 g7 rl_1 (by decide)).1; have o10 := (q_subN (lo := 6) (hi := 62) e20 r_4 rl_1 (by decide)).1; have o11 := iK22; have o12 := c23; have o13 := r105_3; have o14 := r133_5; have o15 := r_6; have o16 := r_5; have o17 := r_8; have o18 := r_9; have o19 := r_13; have o20 := r_7; have o21 := g7; have o22 := r_4; have l23 := tl_1; unfold q_r at o13 o14 o15 o16 o17 o18 o19 o20 o21 o22; omega), (by have o0 := (q_addN (lo := 2) (hi := 65) e183 r105_3 rl_1 (by decide)).1; have o1 := iC105.2.2.2; have o2 := (q_subN (lo := 0) (hi := 63) e111 r105_3 rl_1 (by decide)).1; have o3 := k112; have o4 := c114; have o5 := (q_addN (lo := 1) (hi := 63) e130 r_8 rl_1 (by decide)).1; have o6 := j1; have o7 := j2; have o8 := iJ133; have o9 := (q_subN (lo := 7) (hi := 63) e9 g7 rl_1 (by decide)).1; have o10 := (q_subN (lo := 6) (hi := 62) e20 r_4 rl_1 (by decide)).1; have o11 := iK22; have o12 := c23; have o13 := r105_3; have o14 := r133_5; have o15 := r_6; have o16 := r_5; have o17 := r_8; have o18 := r_9; have o19 := r_13; have o20 := r_7; have o21 := g7; have o22 := r_4; have l23 := tl_1; unfold q_r at o13 o14 o15 o16 o17 o18 o19 o20 o21 o22; omega)⟩) w180 ⟨q_ct.more iC105.1 u180 (q_r.mono r133_5 (by decide)) (by have o0 := iC105.2.2.2; have o1 := (q_subN (lo := 0) (hi := 63) e111 r105_3 rl_1 (by decide)).1; have o2 := k112; have o3 := c114; have o4 := (q_addN (lo := 1) (hi := 63) e130 r_8 rl_1 (by decide)).1; have o5 := j1; have o6 := j2; have o7 := iJ133; have o8 := (q_addN (lo := 2) (hi := 65) e183 r105_3 rl_1 (by decide)).1; have o9 := (q_subN (lo := 7) (hi := 63) e9 g7 rl_1 (by decide)).1; have o10 := (q_subN (lo := 6) (hi := 62) e20 r_4 rl_1 (by decide)).1; have o11 := iK22; have o12 := c23; have o13 := r105_3; have o14 := r133_5; have o15 := r_6; have o16 := r_5; have o17 := r_8; have o18 := r_9; have o19 := r_13; have o20 := r_7; have o21 := g7; have o22 := r_4; have l23 := tl_1; unfold q_r at o13 o14 o15 o16 o17 o18 o19 o20 o21 o22; omega) (by have o0 := iC105.2.2.2; have o1 := (q_subN (lo := 0) (hi := 63) e111 r105_3 rl_1 (by decide)).1; have o2 := k112; have o3 := c114; have o4 := (q_addN (lo := 1) (hi := 63) e130 r_8 rl_1 (by decide)).1; have o5 := j1; have o6 := j2; have o7 := iJ133; have o8 := (q_addN (lo := 2) (hi := 65) e183 r105_3 rl_1 (by decide)).1; have o9 := (q_subN (lo := 7) (hi := 63) e9 g7 rl_1 (by decide)).1; have o10 := (q_subN (lo := 6) (hi := 62) e20 r_4 rl_1 (by decide)).1; have o11 := iK22; have o12 := c23; have o13 := r105_3; have o14 := r133_5; have o15 := r_6; have o16 := r_5; have o17 := r_8; have o18 := r_9; have o19 := r_13; have o20 := r_7; have o21 := g7; have o22 := r_4; have l23 := tl_1; unfold q_r at o13 o14 o15 o16 o17 o18 o19 o20 o21 o22; omega), (by rw [(by rw [u180]; exact q_upK q_2T q_3T (by decide) : s180 q_2b = σ105 q_2b)]; exact iC105.2.1), (by rw [show v183.toInt - 1 = p105_3.toInt from (by have o0 := iC105.2.2.2; have o1 := (q_subN (lo := 0) (hi := 63) e111 r105_3 rl_1 (by decide)).1; have o2 := k112; have o3 := c114; have o4 := (q_addN (lo := 1) (hi := 63) e130 r_8 rl_1 (by decide)).1; have o5 := j1; have o6 := j2; have o7 := iJ133; have o8 := (q_addN (lo := 2) (hi := 65) e183 r105_3 rl_1 (by decide)).1; have o9 := (q_subN (lo := 7) (hi := 63) e9 g7 rl_1 (by decide)).1; have o10 := (q_subN (lo := 6) (hi := 62) e20 r_4 rl_1 (by decide)).1; have o11 := iK22; have o12 := c23; have o13 := r105_3; have o14 := r133_5; have o15 := r_6; have o16 := r_5; have o17 := r_8; have o18 := r_9; have o19 := r_13; have o20 := r_7; have o21 := g7; have o22 := r_4; have l23 := tl_1; unfold q_r at o13 o14 o15 o16 o17 o18 o19 o20 o21 o22; omega)]; exact m180), (by have o0 := iC105.2.2.2; have o1 := (q_subN (lo := 0) (hi := 63) e111 r105_3 rl_1 (by decide)).1; have o2 := k112; have o3 := c114; have o4 := (q_addN (lo := 1) (hi := 63) e130 r_8 rl_1 (by decide)).1; have o5 := j1; have o6 := j2; have o7 := iJ133; have o8 := (q_addN (lo := 2) (hi := 65) e183 r105_3 rl_1 (by decide)).1; have o9 := (q_subN (lo := 7) (hi := 63) e9 g7 rl_1 (by decide)).1; have o10 := (q_subN (lo := 6) (hi := 62) e20 r_4 rl_1 (by decide)).1; have o11 := iK22; have o12 := c23; have o13 := r105_3; have o14 := r133_5; have o15 := r_6; have o16 := r_5; have o17 := r_8; have o18 := r_9; have o19 := r_13; have o20 := r_7; have o21 := g7; have o22 := r_4; have l23 := tl_1; unfold q_r at o13 o14 o15 o16 o17 o18 o19 o20 o21 o22; omega), (by have o0 := (q_subN (lo := 7) (hi := 63) e9 g7 rl_1 (by decide)).1; have o1 := (q_subN (lo := 6) (hi := 62) e20 r_4 rl_1 (by decide)).1; have o2 := iK22; have o3 := c23; have o4 := iC105.2.2.2; have o5 := (q_subN (lo := 0) (hi := 63) e111 r105_3 rl_1 (by decide)).1; have o6 := k112; have o7 := c114; have o8 := (q_addN (lo := 1) (hi := 63) e130 r_8 rl_1 (by decide)).1; have o9 := j1; have o10 := j2; have o11 := iJ133; have o12 := (q_addN (lo := 2) (hi := 65) e183 r105_3 rl_1 (by decide)).1; have o13 := r105_3; have o14 := r133_5; have o15 := r_6; have o16 := r_5; have o17 := r_8; have o18 := r_9; have o19 := r_13; have o20 := r_7; have o21 := g7; have o22 := r_4; have l23 := tl_1; unfold q_r at o13 o14 o15 o16 o17 o18 o19 o20 o21 o22; omega)⟩ (by have o0 := iC105.2.2.2; have o1 := (q_subN (lo := 0) (hi := 63) e111 r105_3 rl_1 (by decide)).1; have o2 := k112; have o3 := c114; have o4 := (q_addN (lo := 1) (hi := 63) e130 r_8 rl_1 (by decide)).1; have o5 := j1; have o6 := j2; have o7 := iJ133; have o8 := (q_addN (lo := 2) (hi := 65) e183 r105_3 rl_1 (by decide)).1; have o9 := (q_subN (lo := 7) (hi := 63) e9 g7 rl_1 (by decide)).1; have o10 := (q_subN (lo := 6) (hi := 62) e20 r_4 rl_1 (by decide)).1; have o11 := iK22; have o12 := c23; have o13 := r105_3; have o14 := r133_5; have o15 := r_6; have o16 := r_5; have o17 := r_8; have o18 := r_9; have o19 := r_13; have o20 := r_7; have o21 := g7; have o22 := r_4; have l23 := tl_1; have o24 := hm105; unfold q_r at o13 o14 o15 o16 o17 o18 o19 o20 o21 o22; omega)
                intro c161
                refine q_lv [0, 1, 2, 3, 4, 5] rfl ?_
                have r_14 := q_rgt p157.1 rA1 c161 1 (by decide)
                exact J164 ((Int.lt_or_eq_of_le iJ133.1).elim id (fun h => absurd j3 (by rw [← h, ← ev157]; exact (by have o0 := c161; have o1 := r_14; have o2 := rA1; unfold q_r at o1 o2; omega))))
            refine q_lv [2, 3, 4, 5, 1, 0] rfl ?_
            exact J133 _ v130 r_9 ⟨(by have o0 := k112; have o1 := c114; have o2 := (q_addN (lo := 1) (hi := 63) e130 r_8 rl_1 (by decide)).1; have o3 := j1; have o4 := j2; have o5 := (q_subN (lo := 7) (hi := 63) e9 g7 rl_1 (by decide)).1; have o6 := (q_subN (lo := 6) (hi := 62) e20 r_4 rl_1 (by decide)).1; have o7 := iK22; have o8 := c23; have o9 := iC105.2.2.2; have o10 := (q_subN (lo := 0) (hi := 63) e111 r105_3 rl_1 (by decide)).1; have o11 := r105_3; have o12 := r_6; have o13 := r_5; have o14 := r_8; have o15 := r_9; have o16 := r_7; have o17 := g7; have o18 := r_4; have l19 := tl_1; unfold q_r at o11 o12 o13 o14 o15 o16 o17 o18; omega), (by have o0 := k112; have o1 := c114; have o2 := (q_addN (lo := 1) (hi := 63) e130 r_8 rl_1 (by decide)).1; have o3 := j1; have o4 := j2; have o5 := (q_subN (lo := 7) (hi := 63) e9 g7 rl_1 (by decide)).1; have o6 := (q_subN (lo := 6) (hi := 62) e20 r_4 rl_1 (by decide)).1; have o7 := iK22; have o8 := c23; have o9 := iC105.2.2.2; have o10 := (q_subN (lo := 0) (hi := 63) e111 r105_3 rl_1 (by decide)).1; have o11 := r105_3; have o12 := r_6; have o13 := r_5; have o14 := r_8; have o15 := r_9; have o16 := r_7; have o17 := g7; have o18 := r_4; have l19 := tl_1; unfold q_r at o11 o12 o13 o14 o15 o16 o17 o18; omega)⟩ (Nat.lt_succ_self _)
        refine q_lv [1, 2, 3, 0] rfl ?_
        have r_15 := q_zlt r22_3 c23
        have r_16 := (q_subN (lo := 6) (hi := 62) e20 r_4 rl_1 (by decide)).2
        exact J105 _ 1 s104 (0 : Int32) (q_r.mono rl_1 (by decide)) w104 ⟨q_ct.one m104, (by rw [(by rw [u104]; exact q_upK q_2T q_3T (by decide) : s104 q_2b = σ22 q_2b)]; have q := iP22; rw [show p22_3.toInt = -1 from (by have o0 := iK22; have o1 := c23; have o2 := (q_subN (lo := 7) (hi := 63) e9 g7 rl_1 (by decide)).1; have o3 := (q_subN (lo := 6) (hi := 62) e20 r_4 rl_1 (by decide)).1; have o4 := r_15; have o5 := r_16; have o6 := g7; have o7 := r_4; have l8 := tl_1; unfold q_r at o4 o5 o6 o7; omega)] at q; exact q), (show _ from m104), (by have l0 := tl_0; have l1 := tl_1; omega), (by have o0 := (q_subN (lo := 7) (hi := 63) e9 g7 rl_1 (by decide)).1; have o1 := (q_subN (lo := 6) (hi := 62) e20 r_4 rl_1 (by decide)).1; have o2 := iK22; have o3 := c23; have o4 := r_15; have o5 := r_16; have o6 := g7; have o7 := r_4; have l8 := tl_0; have l9 := tl_1; unfold q_r at o4 o5 o6 o7; omega)⟩ (Nat.lt_succ_self _)
      intro c23
      refine q_ldcw (pc := 26) hG w1047 dX12_laysPins_26 ?_
      refine q_istore (pc := 29) [(4, .int 1000000000), (0, .ref a0), (1, .int x1), (2, .int v9), (3, .int p22_3)] hG dX12_laysPins_29 (by decide) rfl ?_
      refine q_iload_n (pc := 31) hG dX12_laysPins_31 4 rfl ?_
      refine q_iconst (pc := 32) hG dX12_laysPins_32 ki_1 ?_
      refine q_iadd (pc := 33) hG dX12_laysPins_33 (fun v33 e33 => ?_)
      have r_17 := q_zge r22_3 c23
      refine q_istore (pc := 34) [(5, .int v33), (4, .int 1000000000), (0, .ref a0), (1, .int x1), (2, .int v9), (3, .int p22_3)] hG dX12_laysPins_34 (by decide) rfl ?_
      have J36 : ∀ (n36 : Nat) (p36_4 : Int32) (p36_5 : Int32), (q_r p36_4 1 1000000000) → (q_r p36_5 1 64) → ((p36_4.toInt = 1000000000 ∧ p36_5.toInt = p22_3.toInt + 1) ∨ q_pb1 (σ q_1b) (σ22 q_2b) x1.toInt v9.toInt p22_3.toInt p36_4.toInt) → (p22_3.toInt < p36_5.toInt ∧ p36_5.toInt ≤ v9.toInt + 1) → ((64 - p36_5.toInt).toNat < n36) → q_O X 0 0 τ σ22 36 [(0, .ref a0), (1, .int x1), (2, .int v9), (3, .int p22_3), (4, .int p36_4), (5, .int p36_5)] [] := by
        intro n36
        induction n36 with
        | zero => intro p36_4 p36_5 r36_4 r36_5 iB36 iK36 hm36; exact absurd hm36 (Nat.not_lt_zero _)
        | succ n36 ih36 =>
          intro p36_4 p36_5 r36_4 r36_5 iB36 iK36 hm36
          refine q_iload (pc := 36) hG dX12_laysPins_36 5 rfl ?_
          refine q_iload_n (pc := 38) hG dX12_laysPins_38 2 rfl ?_
          refine q_icmp_gt (pc := 39) hG 80 dX12_laysPins_39 rfl ?_ ?_
          · intro c39
            refine q_aload_n (pc := 80) hG dX12_laysPins_80 0 rfl ?_
            refine q_getV (pc := 81) (v := .ref q_2b) hG fl_X12_68 dX12_laysPins_81 tA0 (hS22.same tA0 rfl q_2f) ?_
            refine q_iload_n (pc := 84) hG dX12_laysPins_84 3 rfl ?_
            refine q_iload (pc := 85) hG dX12_laysPins_85 4 rfl ?_
            refine q_iconst (pc := 87) hG dX12_laysPins_87 ki_1 ?_
            refine q_iadd (pc := 88) hG dX12_laysPins_88 (fun v88 e88 => ?_)
            have r_18 := (q_addN (lo := 2) (hi := 1000000001) e88 r36_4 rl_1 (by decide)).2
            refine q_iast (pc := 89) hG dX12_laysPins_89 hS22 ai_165 q_2T (q_ix r_17 (by decide)) r_18 (by decide) rfl (fun s89 u89 w89 => ?_)
            have m89 : s89 q_2b p22_3.toInt.toNat = .int v88 := by rw [u89]; exact q_up_same
            obtain ⟨v90, e90⟩ : ∃ z : Int32, z = p22_3 + Int32.ofInt (-1) := ⟨_, rfl⟩
            have h90 := q_incN (lo := (-1)) (hi := 61) r_17 (by decide) (by decide) e90
            refine q_iinc (pc := 90) [(3, .int v90), (0, .ref a0), (1, .int x1), (2, .int v9), (4, .int p36_4), (5, .int p36_5)] hG dX12_laysPins_90 3 rfl e90 (by decide) rfl ?_
            refine q_goto (pc := 93) 22 hG dX12_laysPins_93 rfl ?_
            refine q_lv [1, 2, 3, 0] rfl ?_
            have r_19 := q_rgt r36_5 r_4 c39 8 (by decide)
            have r_20 := (q_subN (lo := 6) (hi := 62) e20 r_4 rl_1 (by decide)).2
            have r_21 := (q_addN (lo := 1) (hi := 63) e33 r_17 rl_1 (by decide)).2
            exact ih22 v90 s89 (q_r.mono h90.2 (by decide)) w89 (by rw [show s89 q_2b = updV (σ22 q_2b) p22_3.toInt.toNat (.int v88) from (by rw [u89]; exact q_upF), show v90.toInt = p22_3.toInt - 1 from (by have o0 := iK22; have o1 := c23; have o2 := (q_addN (lo := 1) (hi := 63) e33 r_17 rl_1 (by decide)).1; have o3 := iK36; have o4 := c39; have o5 := h90.1; have o6 := (q_subN (lo := 7) (hi := 63) e9 g7 rl_1 (by decide)).1; have o7 := (q_subN (lo := 6) (hi := 62) e20 r_4 rl_1 (by decide)).1; have o8 := r_17; have o9 := r_19; have o10 := r_20; have o11 := r_21; have o12 := g7; have o13 := r_4; have o14 := h90.2; have l15 := tl_1; unfold q_r at o8 o9 o10 o11 o12 o13 o14; omega)]; exact iP22.put (by have o0 := (q_subN (lo := 7) (hi := 63) e9 g7 rl_1 (by decide)).1; have o1 := (q_subN (lo := 6) (hi := 62) e20 r_4 rl_1 (by decide)).1; have o2 := iK22; have o3 := c23; have o4 := (q_addN (lo := 1) (hi := 63) e33 r_17 rl_1 (by decide)).1; have o5 := iK36; have o6 := c39; have o7 := h90.1; have o8 := r_17; have o9 := r_19; have o10 := r_20; have o11 := r_21; have o12 := g7; have o13 := r_4; have o14 := h90.2; have l15 := tl_1; unfold q_r at o8 o9 o10 o11 o12 o13 o14; omega) (iB36.elim (fun q => absurd q.2 (by have o0 := (q_subN (lo := 7) (hi := 63) e9 g7 rl_1 (by decide)).1; have o1 := (q_subN (lo := 6) (hi := 62) e20 r_4 rl_1 (by decide)).1; have o2 := iK22; have o3 := c23; have o4 := (q_addN (lo := 1) (hi := 63) e33 r_17 rl_1 (by decide)).1; have o5 := iK36; have o6 := c39; have o7 := h90.1; have o8 := r_17; have o9 := r_19; have o10 := r_20; have o11 := r_21; have o12 := g7; have o13 := r_4; have o14 := h90.2; have l15 := tl_1; unfold q_r at o8 o9 o10 o11 o12 o13 o14; omega)) id) (by have o0 := (q_addN (lo := 2) (hi := 1000000001) e88 r36_4 rl_1 (by decide)).1; have o1 := r36_4; have o2 := r_18; have l3 := tl_1; unfold q_r at o1 o2; omega)) (by have o0 := (q_subN (lo := 7) (hi := 63) e9 g7 rl_1 (by decide)).1; have o1 := (q_subN (lo := 6) (hi := 62) e20 r_4 rl_1 (by decide)).1; have o2 := iK22; have o3 := c23; have o4 := (q_addN (lo := 1) (hi := 63) e33 r_17 rl_1 (by decide)).1; have o5 := iK36; have o6 := c39; have o7 := h90.1; have o8 := r_17; have o9 := r_19; have o10 := r_20; have o11 := r_21; have o12 := g7; have o13 := r_4; have o14 := h90.2; have l15 := tl_1; unfold q_r at o8 o9 o10 o11 o12 o13 o14; omega) (q_measD hm22 (by have o0 := iK22; have o1 := c23; have o2 := (q_addN (lo := 1) (hi := 63) e33 r_17 rl_1 (by decide)).1; have o3 := iK36; have o4 := c39; have o5 := h90.1; have o6 := (q_subN (lo := 7) (hi := 63) e9 g7 rl_1 (by decide)).1; have o7 := (q_subN (lo := 6) (hi := 62) e20 r_4 rl_1 (by decide)).1; have o8 := r_17; have o9 := r_19; have o10 := r_20; have o11 := r_21; have o12 := g7; have o13 := r_4; have o14 := h90.2; have l15 := tl_1; unfold q_r at o8 o9 o10 o11 o12 o13 o14; omega) (h90.2).1)
          intro c39
          refine q_aload_n (pc := 42) hG dX12_laysPins_42 0 rfl ?_
          refine q_getV (pc := 43) (v := .ref q_2b) hG fl_X12_68 dX12_laysPins_43 tA0 (hS22.same tA0 rfl q_2f) ?_
          refine q_iload (pc := 46) hG dX12_laysPins_46 5 rfl ?_
          have r_22 := q_rle r36_5 r_4 c39
          refine q_iald (pc := 48) hG dX12_laysPins_48 hS22.1 ai_165 q_2T (q_ix r_22 (by decide)) (fun v48 f48 g48 => ?_)
          have iv48 : q_iv (σ22 q_2b) p36_5.toInt = v48.toInt := q_iv_at f48
          have r_23 := (q_subN (lo := 6) (hi := 62) e20 r_4 rl_1 (by decide)).2
          have r_24 := (q_addN (lo := 1) (hi := 63) e33 r_17 rl_1 (by decide)).2
          have g48 := (iP22 p36_5.toInt (by have o0 := iK22; have o1 := c23; have o2 := (q_addN (lo := 1) (hi := 63) e33 r_17 rl_1 (by decide)).1; have o3 := iK36; have o4 := c39; have o5 := (q_subN (lo := 7) (hi := 63) e9 g7 rl_1 (by decide)).1; have o6 := (q_subN (lo := 6) (hi := 62) e20 r_4 rl_1 (by decide)).1; have o7 := r_17; have o8 := r_22; have o9 := r_23; have o10 := r_24; have o11 := g7; have o12 := r_4; have l13 := tl_1; unfold q_r at o7 o8 o9 o10 o11 o12; omega) (by have o0 := (q_subN (lo := 7) (hi := 63) e9 g7 rl_1 (by decide)).1; have o1 := (q_subN (lo := 6) (hi := 62) e20 r_4 rl_1 (by decide)).1; have o2 := iK22; have o3 := c23; have o4 := (q_addN (lo := 1) (hi := 63) e33 r_17 rl_1 (by decide)).1; have o5 := iK36; have o6 := c39; have o7 := r_17; have o8 := r_22; have o9 := r_23; have o10 := r_24; have o11 := g7; have o12 := r_4; have l13 := tl_1; unfold q_r at o7 o8 o9 o10 o11 o12; omega)).1
          rw [iv48] at g48
          have r48 : q_r v48 1 64 := ⟨g48.1, (by have o0 := (q_subN (lo := 7) (hi := 63) e9 g7 rl_1 (by decide)).1; have o1 := (q_subN (lo := 6) (hi := 62) e20 r_4 rl_1 (by decide)).1; have o2 := iK22; have o3 := c23; have o4 := (q_addN (lo := 1) (hi := 63) e33 r_17 rl_1 (by decide)).1; have o5 := iK36; have o6 := c39; have o7 := r_17; have o8 := r_22; have o9 := r_23; have o10 := r_24; have o11 := g7; have o12 := r_4; have l13 := tl_1; unfold q_r at o7 o8 o9 o10 o11 o12; have g := g48; omega)⟩
          refine q_iload (pc := 49) hG dX12_laysPins_49 4 rfl ?_
          have J74 : ∀ (p74_4 : Int32), (q_r p74_4 1 1000000000) → (q_pb1 (σ q_1b) (σ22 q_2b) x1.toInt v9.toInt p22_3.toInt p74_4.toInt) → q_O X 0 0 τ σ22 74 [(0, .ref a0), (1, .int x1), (2, .int v9), (3, .int p22_3), (4, .int p74_4), (5, .int p36_5)] [] := by
            intro p74_4 r74_4 iB74
            obtain ⟨v74, e74⟩ : ∃ z : Int32, z = p36_5 + Int32.ofInt 1 := ⟨_, rfl⟩
            have h74 := q_incN (lo := 2) (hi := 64) r_22 (by decide) (by decide) e74
            refine q_iinc (pc := 74) [(5, .int v74), (0, .ref a0), (1, .int x1), (2, .int v9), (3, .int p22_3), (4, .int p74_4)] hG dX12_laysPins_74 5 rfl e74 (by decide) rfl ?_
            refine q_goto (pc := 77) 36 hG dX12_laysPins_77 rfl ?_
            refine q_lv [1, 2, 3, 4, 5, 0] rfl ?_
            exact ih36 p74_4 v74 r74_4 (q_r.mono h74.2 (by decide)) (Or.inr iB74) (by have o0 := (q_subN (lo := 7) (hi := 63) e9 g7 rl_1 (by decide)).1; have o1 := (q_subN (lo := 6) (hi := 62) e20 r_4 rl_1 (by decide)).1; have o2 := iK22; have o3 := c23; have o4 := (q_addN (lo := 1) (hi := 63) e33 r_17 rl_1 (by decide)).1; have o5 := iK36; have o6 := c39; have o7 := g48; have o8 := h74.1; have o9 := r_17; have o10 := r_22; have o11 := r_23; have o12 := r_24; have o13 := r48; have o14 := g7; have o15 := h74.2; have o16 := r_4; have l17 := tl_1; unfold q_r at o9 o10 o11 o12 o13 o14 o15 o16; omega) (q_measU hm36 (by have o0 := iK36; have o1 := c39; have o2 := g48; have o3 := h74.1; have o4 := (q_subN (lo := 7) (hi := 63) e9 g7 rl_1 (by decide)).1; have o5 := (q_subN (lo := 6) (hi := 62) e20 r_4 rl_1 (by decide)).1; have o6 := iK22; have o7 := c23; have o8 := (q_addN (lo := 1) (hi := 63) e33 r_17 rl_1 (by decide)).1; have o9 := r_17; have o10 := r_22; have o11 := r_23; have o12 := r_24; have o13 := r48; have o14 := g7; have o15 := h74.2; have o16 := r_4; have l17 := tl_1; unfold q_r at o9 o10 o11 o12 o13 o14 o15 o16; omega) (h74.2).2)
          refine q_icmp_ge (pc := 51) hG 74 dX12_laysPins_51 rfl ?_ ?_
          · intro c51
            refine q_lv [0, 1, 2, 3, 4, 5] rfl ?_
            have r_25 := q_rle r36_4 r48 c51
            exact J74 p36_4 (q_r.mono r_25 (by decide)) (iB36.elim (fun q => absurd q.1 (by have o0 := g48; have o1 := c51; have o2 := (q_subN (lo := 7) (hi := 63) e9 g7 rl_1 (by decide)).1; have o3 := (q_subN (lo := 6) (hi := 62) e20 r_4 rl_1 (by decide)).1; have o4 := iK22; have o5 := c23; have o6 := (q_addN (lo := 1) (hi := 63) e33 r_17 rl_1 (by decide)).1; have o7 := iK36; have o8 := c39; have o9 := r_17; have o10 := r_25; have o11 := r_22; have o12 := r_23; have o13 := r_24; have o14 := r48; have o15 := g7; have o16 := r_4; have l17 := tl_1; unfold q_r at o9 o10 o11 o12 o13 o14 o15 o16; omega)) id)
          intro c51
          refine q_aload_n (pc := 54) hG dX12_laysPins_54 0 rfl ?_
          refine q_iload_n (pc := 55) hG dX12_laysPins_55 3 rfl ?_
          refine q_iload (pc := 56) hG dX12_laysPins_56 5 rfl ?_
          refine q_pV (pc := 58) [.int p22_3, .int p36_5] [] hG (c_X12_worst τ σ22 a0 p22_3 p36_5 hS22.1 tA0 (q_r.mono r_17 (by decide)) (q_r.mono r_22 (by decide))) my_X12_worst mv_X12_worst w1055 dX12_laysPins_58 tA0 (by decide) rfl rfl (Nat.le_of_ble_eq_true rfl) (by decide) (fun v58 p58 => ?_)
          have ev58 := (p58.2 q_1b (hS22.same tA0 rfl q_1f))
          rw [((funext fun j => hS22.2.arr q_1T (by decide) rfl) : σ22 q_1b = σ q_1b)] at ev58
          refine q_iload_n (pc := 61) hG dX12_laysPins_61 1 rfl ?_
          refine q_icmp_gt (pc := 62) hG 74 dX12_laysPins_62 rfl ?_ ?_
          · intro c62
            refine q_lv [0, 1, 2, 3, 4, 5] rfl ?_
            have r_26 := q_rgt r36_4 r48 c51 2 (by decide)
            have r_27 := q_rgt p58.1 rA1 c62 1 (by decide)
            exact J74 p36_4 (q_r.mono r_26 (by decide)) (iB36.elim (fun q => absurd (ev58.trans (q_wz_1 q.2)) (by have o0 := c62; have o1 := r_27; have o2 := rA1; unfold q_r at o1 o2; omega)) id)
          intro c62
          refine q_aload_n (pc := 65) hG dX12_laysPins_65 0 rfl ?_
          refine q_getV (pc := 66) (v := .ref q_2b) hG fl_X12_68 dX12_laysPins_66 tA0 (hS22.same tA0 rfl q_2f) ?_
          refine q_iload (pc := 69) hG dX12_laysPins_69 5 rfl ?_
          refine q_ialdV (pc := 71) (v := .int v48) hG dX12_laysPins_71 q_2T (by decide) (by decide) (q_ix r_22 (by decide)) f48 ?_
          refine q_istore (pc := 72) [(4, .int v48), (0, .ref a0), (1, .int x1), (2, .int v9), (3, .int p22_3), (5, .int p36_5)] hG dX12_laysPins_72 (by decide) rfl ?_
          refine q_lv [1, 2, 3, 4, 0, 5] rfl ?_
          have r_28 := q_rgt r36_4 r48 c51 2 (by decide)
          have r_29 := q_rle p58.1 rA1 c62
          exact J74 v48 (q_r.mono r48 (by decide)) ⟨p36_5.toInt, (by have o0 := iK22; have o1 := c23; have o2 := (q_addN (lo := 1) (hi := 63) e33 r_17 rl_1 (by decide)).1; have o3 := iK36; have o4 := c39; have o5 := g48; have o6 := c51; have o7 := (q_subN (lo := 7) (hi := 63) e9 g7 rl_1 (by decide)).1; have o8 := (q_subN (lo := 6) (hi := 62) e20 r_4 rl_1 (by decide)).1; have o9 := r_17; have o10 := r_28; have o11 := r_22; have o12 := r_23; have o13 := r_24; have o14 := r48; have o15 := g7; have o16 := r_4; have l17 := tl_1; unfold q_r at o9 o10 o11 o12 o13 o14 o15 o16; omega), (by have o0 := (q_subN (lo := 7) (hi := 63) e9 g7 rl_1 (by decide)).1; have o1 := (q_subN (lo := 6) (hi := 62) e20 r_4 rl_1 (by decide)).1; have o2 := iK22; have o3 := c23; have o4 := (q_addN (lo := 1) (hi := 63) e33 r_17 rl_1 (by decide)).1; have o5 := iK36; have o6 := c39; have o7 := g48; have o8 := c51; have o9 := r_17; have o10 := r_28; have o11 := r_22; have o12 := r_23; have o13 := r_24; have o14 := r48; have o15 := g7; have o16 := r_4; have l17 := tl_1; unfold q_r at o9 o10 o11 o12 o13 o14 o15 o16; omega), (by rw [← ev58]; exact (by have o0 := c62; have o1 := r_29; have o2 := rA1; unfold q_r at o1 o2; omega)), iv48, (by have o0 := g48; have o1 := c51; have o2 := (q_subN (lo := 7) (hi := 63) e9 g7 rl_1 (by decide)).1; have o3 := (q_subN (lo := 6) (hi := 62) e20 r_4 rl_1 (by decide)).1; have o4 := iK22; have o5 := c23; have o6 := (q_addN (lo := 1) (hi := 63) e33 r_17 rl_1 (by decide)).1; have o7 := iK36; have o8 := c39; have o9 := r_17; have o10 := r_28; have o11 := r_22; have o12 := r_23; have o13 := r_24; have o14 := r48; have o15 := g7; have o16 := r_4; have l17 := tl_1; unfold q_r at o9 o10 o11 o12 o13 o14 o15 o16; omega), (by have o0 := (q_subN (lo := 7) (hi := 63) e9 g7 rl_1 (by decide)).1; have o1 := (q_subN (lo := 6) (hi := 62) e20 r_4 rl_1 (by decide)).1; have o2 := iK22; have o3 := c23; have o4 := (q_addN (lo := 1) (hi := 63) e33 r_17 rl_1 (by decide)).1; have o5 := iK36; have o6 := c39; have o7 := g48; have o8 := c51; have o9 := r_17; have o10 := r_28; have o11 := r_22; have o12 := r_23; have o13 := r_24; have o14 := r48; have o15 := g7; have o16 := r_4; have l17 := tl_1; unfold q_r at o9 o10 o11 o12 o13 o14 o15 o16; omega)⟩
      refine q_lv [2, 3, 4, 5, 1, 0] rfl ?_
      have r_30 := (q_addN (lo := 1) (hi := 63) e33 r_17 rl_1 (by decide)).2
      have r_31 := (q_subN (lo := 6) (hi := 62) e20 r_4 rl_1 (by decide)).2
      exact J36 _ 1000000000 v33 (q_r.mono rl_1000000000 (by decide)) (q_r.mono r_30 (by decide)) (Or.inl ⟨(by have l0 := tl_1000000000; omega), (by have o0 := iK22; have o1 := c23; have o2 := (q_addN (lo := 1) (hi := 63) e33 r_17 rl_1 (by decide)).1; have o3 := (q_subN (lo := 7) (hi := 63) e9 g7 rl_1 (by decide)).1; have o4 := (q_subN (lo := 6) (hi := 62) e20 r_4 rl_1 (by decide)).1; have o5 := r_17; have o6 := r_31; have o7 := r_30; have o8 := g7; have o9 := r_4; have l10 := tl_1; unfold q_r at o5 o6 o7 o8 o9; omega)⟩) (by have o0 := (q_subN (lo := 7) (hi := 63) e9 g7 rl_1 (by decide)).1; have o1 := (q_subN (lo := 6) (hi := 62) e20 r_4 rl_1 (by decide)).1; have o2 := iK22; have o3 := c23; have o4 := (q_addN (lo := 1) (hi := 63) e33 r_17 rl_1 (by decide)).1; have o5 := r_17; have o6 := r_31; have o7 := r_30; have o8 := g7; have o9 := r_4; have l10 := tl_1; unfold q_r at o5 o6 o7 o8 o9; omega) (Nat.lt_succ_self _)
  refine q_lv [2, 3, 1, 0] rfl ?_
  have r_32 := (q_subN (lo := 6) (hi := 62) e20 r_4 rl_1 (by decide)).2
  exact J22 _ v20 s17 (q_r.mono r_32 (by decide)) w17 (by rw [show v20.toInt = v9.toInt - 1 from (by have o0 := (q_subN (lo := 7) (hi := 63) e9 g7 rl_1 (by decide)).1; have o1 := (q_subN (lo := 6) (hi := 62) e20 r_4 rl_1 (by decide)).1; have o2 := r_32; have o3 := g7; have o4 := r_4; have l5 := tl_1; unfold q_r at o2 o3 o4; omega)]; exact q_pp.new ((q_iv_at m17).trans tl_1)) (by have o0 := (q_subN (lo := 7) (hi := 63) e9 g7 rl_1 (by decide)).1; have o1 := (q_subN (lo := 6) (hi := 62) e20 r_4 rl_1 (by decide)).1; have o2 := r_32; have o3 := g7; have o4 := r_4; have l5 := tl_1; unfold q_r at o2 o3 o4; omega) (Nat.lt_succ_self _)
theorem dX12_pinned_0 : decode cX12_pinned 0 = .ok (.iload_n 1, 1) := by decide +kernel
theorem dX12_pinned_1 : decode cX12_pinned 1 = .ok (.iconst 0, 1) := by decide +kernel
theorem dX12_pinned_2 : decode cX12_pinned 2 = .ok (.bipush 99, 2) := by decide +kernel
theorem dX12_pinned_4 : decode cX12_pinned 4 = .ok (.invokestatic 102, 3) := by decide +kernel
theorem dX12_pinned_7 : decode cX12_pinned 7 = .ok (.ifCond .eq 7, 3) := by decide +kernel
theorem dX12_pinned_10 : decode cX12_pinned 10 = .ok (.iload_n 2, 1) := by decide +kernel
theorem dX12_pinned_11 : decode cX12_pinned 11 = .ok (.ifCond .ge 5, 3) := by decide +kernel
theorem dX12_pinned_14 : decode cX12_pinned 14 = .ok (.iconst (-1), 1) := by decide +kernel
theorem dX12_pinned_15 : decode cX12_pinned 15 = .ok (.ireturn, 1) := by decide +kernel
theorem dX12_pinned_16 : decode cX12_pinned 16 = .ok (.aload_n 0, 1) := by decide +kernel
theorem dX12_pinned_17 : decode cX12_pinned 17 = .ok (.iload_n 1, 1) := by decide +kernel
theorem dX12_pinned_18 : decode cX12_pinned 18 = .ok (.invokevirtual 334, 3) := by decide +kernel
theorem dX12_pinned_21 : decode cX12_pinned 21 = .ok (.istore_n 3, 1) := by decide +kernel
theorem dX12_pinned_22 : decode cX12_pinned 22 = .ok (.iload_n 2, 1) := by decide +kernel
theorem dX12_pinned_23 : decode cX12_pinned 23 = .ok (.bipush 100, 2) := by decide +kernel
theorem dX12_pinned_25 : decode cX12_pinned 25 = .ok (.if_icmp .ne 5, 3) := by decide +kernel
theorem dX12_pinned_28 : decode cX12_pinned 28 = .ok (.iload_n 3, 1) := by decide +kernel
theorem dX12_pinned_29 : decode cX12_pinned 29 = .ok (.ireturn, 1) := by decide +kernel
theorem dX12_pinned_30 : decode cX12_pinned 30 = .ok (.iload_n 2, 1) := by decide +kernel
theorem dX12_pinned_31 : decode cX12_pinned 31 = .ok (.bipush 101, 2) := by decide +kernel
theorem dX12_pinned_33 : decode cX12_pinned 33 = .ok (.if_icmp .ne 49, 3) := by decide +kernel
theorem dX12_pinned_36 : decode cX12_pinned 36 = .ok (.iconst 0, 1) := by decide +kernel
theorem dX12_pinned_37 : decode cX12_pinned 37 = .ok (.istore 4, 2) := by decide +kernel
theorem dX12_pinned_39 : decode cX12_pinned 39 = .ok (.iconst 1, 1) := by decide +kernel
theorem dX12_pinned_40 : decode cX12_pinned 40 = .ok (.istore 5, 2) := by decide +kernel
theorem dX12_pinned_42 : decode cX12_pinned 42 = .ok (.iload 5, 2) := by decide +kernel
theorem dX12_pinned_44 : decode cX12_pinned 44 = .ok (.iload_n 3, 1) := by decide +kernel
theorem dX12_pinned_45 : decode cX12_pinned 45 = .ok (.if_icmp .ge 34, 3) := by decide +kernel
theorem dX12_pinned_48 : decode cX12_pinned 48 = .ok (.iload 4, 2) := by decide +kernel
theorem dX12_pinned_50 : decode cX12_pinned 50 = .ok (.aload_n 0, 1) := by decide +kernel
theorem dX12_pinned_51 : decode cX12_pinned 51 = .ok (.aload_n 0, 1) := by decide +kernel
theorem dX12_pinned_52 : decode cX12_pinned 52 = .ok (.getfield 71, 3) := by decide +kernel
theorem dX12_pinned_55 : decode cX12_pinned 55 = .ok (.iload 5, 2) := by decide +kernel
theorem dX12_pinned_57 : decode cX12_pinned 57 = .ok (.iconst 1, 1) := by decide +kernel
theorem dX12_pinned_58 : decode cX12_pinned 58 = .ok (.isub, 1) := by decide +kernel
theorem dX12_pinned_59 : decode cX12_pinned 59 = .ok (.iaload, 1) := by decide +kernel
theorem dX12_pinned_60 : decode cX12_pinned 60 = .ok (.aload_n 0, 1) := by decide +kernel
theorem dX12_pinned_61 : decode cX12_pinned 61 = .ok (.getfield 71, 3) := by decide +kernel
theorem dX12_pinned_64 : decode cX12_pinned 64 = .ok (.iload 5, 2) := by decide +kernel
theorem dX12_pinned_66 : decode cX12_pinned 66 = .ok (.iaload, 1) := by decide +kernel
theorem dX12_pinned_67 : decode cX12_pinned 67 = .ok (.invokevirtual 331, 3) := by decide +kernel
theorem dX12_pinned_70 : decode cX12_pinned 70 = .ok (.iadd, 1) := by decide +kernel
theorem dX12_pinned_71 : decode cX12_pinned 71 = .ok (.istore 4, 2) := by decide +kernel
theorem dX12_pinned_73 : decode cX12_pinned 73 = .ok (.iinc 5 1, 3) := by decide +kernel
theorem dX12_pinned_76 : decode cX12_pinned 76 = .ok (.goto (-34), 3) := by decide +kernel
theorem dX12_pinned_79 : decode cX12_pinned 79 = .ok (.iload 4, 2) := by decide +kernel
theorem dX12_pinned_81 : decode cX12_pinned 81 = .ok (.ireturn, 1) := by decide +kernel
theorem dX12_pinned_82 : decode cX12_pinned 82 = .ok (.iload_n 2, 1) := by decide +kernel
theorem dX12_pinned_83 : decode cX12_pinned 83 = .ok (.iload_n 3, 1) := by decide +kernel
theorem dX12_pinned_84 : decode cX12_pinned 84 = .ok (.if_icmp .ge 12, 3) := by decide +kernel
theorem dX12_pinned_87 : decode cX12_pinned 87 = .ok (.aload_n 0, 1) := by decide +kernel
theorem dX12_pinned_88 : decode cX12_pinned 88 = .ok (.getfield 71, 3) := by decide +kernel
theorem dX12_pinned_91 : decode cX12_pinned 91 = .ok (.iload_n 2, 1) := by decide +kernel
theorem dX12_pinned_92 : decode cX12_pinned 92 = .ok (.iaload, 1) := by decide +kernel
theorem dX12_pinned_93 : decode cX12_pinned 93 = .ok (.goto 5, 3) := by decide +kernel
theorem dX12_pinned_96 : decode cX12_pinned 96 = .ok (.bipush (-2), 2) := by decide +kernel
theorem dX12_pinned_98 : decode cX12_pinned 98 = .ok (.ireturn, 1) := by decide +kernel
def md_X12_pinned : List (Nat × Nat) := [(165, 0), (166, 0)]
set_option maxRecDepth 100000 in
set_option maxHeartbeats 4000000 in
theorem c_X12_pinned {l : Launch} {D : q_D} (τ : q_T) (σ : q_V) (a0 : Nat) (x1 : Int32) (x2 : Int32) (hI : q_I τ σ) (tA0 : τ a0 = some (10, 1)) : q_Ci l D yX12_pinned cX12_pinned 6 (some .int) 3 72 τ σ [.ref a0, .int x1, .int x2] (fun r σ1 => q_S md_X12_pinned τ σ σ1 ∧ (q_r r (-2147483648) 2147483647)) := by
  refine q_meti rfl (Nat.le_of_ble_eq_true rfl) (fun X hG hE => ?_)
  show q_O X 0 0 τ σ 0 [(0, .ref a0), (1, .int x1), (2, .int x2)] []
  have hS0 : q_S md_X12_pinned τ σ σ := q_S.rf hI
  obtain ⟨q_1b, q_1f, q_1T⟩ := (hI a0 10 1 tA0 32 (by decide)).ref (k := 166) (n := 64) rfl
  refine q_iload_n (pc := 0) hG dX12_pinned_0 1 rfl ?_
  refine q_iconst (pc := 1) hG dX12_pinned_1 ki_0 ?_
  refine q_bipush (pc := 2) hG dX12_pinned_2 kb_99 ?_
  refine q_pS (pc := 4) [.int x1, .int 0, .int 99] [] hG (c_X12_in τ σ x1 0 99 hI) my_X12_in w778 w777 dX12_pinned_4 rfl rfl (Nat.le_of_ble_eq_true rfl) (by decide) (fun v4 p4 => ?_)
  refine q_if_eq (pc := 7) hG 14 dX12_pinned_7 rfl ?_ ?_
  · intro c7
    refine q_iconst (pc := 14) hG dX12_pinned_14 ki_m1 ?_
    exact q_irt hG hE dX12_pinned_15 ⟨hS0, (q_r.mono rl_m1 (by decide))⟩
  intro c7
  have g_2 := p4.2.2.mp (q_one p4.1 c7)
  have r_3 := q_rge (q_r_any x1) rl_0 g_2.1
  refine q_iload_n (pc := 10) hG dX12_pinned_10 2 rfl ?_
  refine q_if_ge (pc := 11) hG 16 dX12_pinned_11 rfl ?_ ?_
  · intro c11
    refine q_aload_n (pc := 16) hG dX12_pinned_16 0 rfl ?_
    refine q_iload_n (pc := 17) hG dX12_pinned_17 1 rfl ?_
    have r_4 := q_rle r_3 rl_99 g_2.2
    refine q_cVi (pc := 18) [.int x1] [] hG (c_X12_laysPins τ σ a0 x1 hI tA0 r_4) my_X12_laysPins mv_X12_laysPins w1068 dX12_pinned_18 tA0 (by decide) rfl rfl (Nat.le_of_ble_eq_true rfl) (by decide) (fun v18 s18 p18 => ?_)
    have w18 := hS0.trans p18.1 rfl
    refine q_istore_n (pc := 21) [(3, .int v18), (0, .ref a0), (1, .int x1), (2, .int x2)] hG dX12_pinned_21 (by decide) rfl ?_
    refine q_iload_n (pc := 22) hG dX12_pinned_22 3 rfl ?_
    refine q_bipush (pc := 23) hG dX12_pinned_23 kb_100 ?_
    refine q_icmp_ne (pc := 25) hG 30 dX12_pinned_25 rfl ?_ ?_
    · intro c25
      have r_5 := q_zge (q_r_any x2) c11
      refine q_iload_n (pc := 30) hG dX12_pinned_30 3 rfl ?_
      refine q_bipush (pc := 31) hG dX12_pinned_31 kb_101 ?_
      refine q_icmp_ne (pc := 33) hG 82 dX12_pinned_33 rfl ?_ ?_
      · intro c33
        refine q_iload_n (pc := 82) hG dX12_pinned_82 3 rfl ?_
        refine q_iload_n (pc := 83) hG dX12_pinned_83 0 rfl ?_
        refine q_icmp_ge (pc := 84) hG 96 dX12_pinned_84 rfl ?_ ?_
        · intro c84
          refine q_bipush (pc := 96) hG dX12_pinned_96 kb_m2 ?_
          exact q_irt hG hE dX12_pinned_98 ⟨w18, (q_r.mono rl_m2 (by decide))⟩
        intro c84
        refine q_aload_n (pc := 87) hG dX12_pinned_87 1 rfl ?_
        refine q_getV (pc := 88) (v := .ref q_1b) hG fl_X12_71 dX12_pinned_88 tA0 (w18.same tA0 rfl q_1f) ?_
        refine q_iload_n (pc := 91) hG dX12_pinned_91 3 rfl ?_
        have r_6 := q_rlt r_5 p18.2.1 c84 63 (by decide)
        refine q_iald (pc := 92) hG dX12_pinned_92 w18.1 ai_166 q_1T (q_ix r_6 (by decide)) (fun v92 f92 g92 => ?_)
        refine q_goto (pc := 93) 98 hG dX12_pinned_93 rfl ?_
        exact q_irt hG hE dX12_pinned_98 ⟨w18, g92⟩
      intro c33
      refine q_iconst (pc := 36) hG dX12_pinned_36 ki_0 ?_
      refine q_istore (pc := 37) [(4, .int 0), (3, .int v18), (0, .ref a0), (1, .int x1), (2, .int x2)] hG dX12_pinned_37 (by decide) rfl ?_
      refine q_iconst (pc := 39) hG dX12_pinned_39 ki_1 ?_
      refine q_istore (pc := 40) [(5, .int 1), (4, .int 0), (3, .int v18), (0, .ref a0), (1, .int x1), (2, .int x2)] hG dX12_pinned_40 (by decide) rfl ?_
      have J42 : ∀ (n42 : Nat) (p42_4 : Int32) (p42_5 : Int32), (q_r p42_5 1 64) → ((64 - p42_5.toInt).toNat < n42) → q_O X 0 0 τ s18 42 [(0, .ref a0), (3, .int v18), (4, .int p42_4), (5, .int p42_5)] [] := by
        intro n42
        induction n42 with
        | zero => intro p42_4 p42_5 r42_5 hm42; exact absurd hm42 (Nat.not_lt_zero _)
        | succ n42 ih42 =>
          intro p42_4 p42_5 r42_5 hm42
          refine q_iload (pc := 42) hG dX12_pinned_42 3 rfl ?_
          refine q_iload_n (pc := 44) hG dX12_pinned_44 1 rfl ?_
          refine q_icmp_ge (pc := 45) hG 79 dX12_pinned_45 rfl ?_ ?_
          · intro c45
            refine q_iload (pc := 79) hG dX12_pinned_79 2 rfl ?_
            exact q_irt hG hE dX12_pinned_81 ⟨w18, (q_r_any p42_4)⟩
          intro c45
          refine q_iload (pc := 48) hG dX12_pinned_48 2 rfl ?_
          refine q_aload_n (pc := 50) hG dX12_pinned_50 0 rfl ?_
          refine q_aload_n (pc := 51) hG dX12_pinned_51 0 rfl ?_
          refine q_getV (pc := 52) (v := .ref q_1b) hG fl_X12_71 dX12_pinned_52 tA0 (w18.same tA0 rfl q_1f) ?_
          refine q_iload (pc := 55) hG dX12_pinned_55 3 rfl ?_
          refine q_iconst (pc := 57) hG dX12_pinned_57 ki_1 ?_
          refine q_isub (pc := 58) hG dX12_pinned_58 (fun v58 e58 => ?_)
          have r_7 := q_rlt r42_5 p18.2.1 c45 63 (by decide)
          have r_8 := (q_subN (lo := 0) (hi := 62) e58 r_7 rl_1 (by decide)).2
          refine q_iald (pc := 59) hG dX12_pinned_59 w18.1 ai_166 q_1T (q_ix r_8 (by decide)) (fun v59 f59 g59 => ?_)
          have r_9 := q_rgt p18.2.1 r42_5 c45 2 (by decide)
          have rq59 := (p18.2.2 q_1b q_1f).at (by have o0 := c45; have o1 := (q_subN (lo := 0) (hi := 62) e58 r_7 rl_1 (by decide)).1; have o2 := r_7; have o3 := r_9; have o4 := r_8; have l5 := tl_1; unfold q_r at o2 o3 o4; omega) f59
          refine q_aload_n (pc := 60) hG dX12_pinned_60 0 rfl ?_
          refine q_getV (pc := 61) (v := .ref q_1b) hG fl_X12_71 dX12_pinned_61 tA0 (w18.same tA0 rfl q_1f) ?_
          refine q_iload (pc := 64) hG dX12_pinned_64 3 rfl ?_
          refine q_iald (pc := 66) hG dX12_pinned_66 w18.1 ai_166 q_1T (q_ix r_7 (by decide)) (fun v66 f66 g66 => ?_)
          have rq66 := (p18.2.2 q_1b q_1f).at (by have o0 := c45; have o1 := (q_subN (lo := 0) (hi := 62) e58 r_7 rl_1 (by decide)).1; have o2 := r_7; have o3 := r_9; have o4 := r_8; have l5 := tl_1; unfold q_r at o2 o3 o4; omega) f66
          refine q_pV (pc := 67) [.int v59, .int v66] [.int p42_4] hG (c_X12_offBetween τ s18 a0 v59 v66 w18.1 tA0 rq59 rq66) my_X12_offBetween mv_X12_offBetween w1061 dX12_pinned_67 tA0 (by decide) rfl rfl (Nat.le_of_ble_eq_true rfl) (by decide) (fun v67 p67 => ?_)
          refine q_iadd (pc := 70) hG dX12_pinned_70 (fun v70 e70 => ?_)
          refine q_istore (pc := 71) [(4, .int v70), (0, .ref a0), (3, .int v18), (5, .int p42_5)] hG dX12_pinned_71 (by decide) rfl ?_
          obtain ⟨v73, e73⟩ : ∃ z : Int32, z = p42_5 + Int32.ofInt 1 := ⟨_, rfl⟩
          have h73 := q_incN (lo := 2) (hi := 64) r_7 (by decide) (by decide) e73
          refine q_iinc (pc := 73) [(5, .int v73), (4, .int v70), (0, .ref a0), (3, .int v18)] hG dX12_pinned_73 3 rfl e73 (by decide) rfl ?_
          refine q_goto (pc := 76) 42 hG dX12_pinned_76 rfl ?_
          refine q_lv [2, 3, 1, 0] rfl ?_
          exact ih42 v70 v73 (q_r.mono h73.2 (by decide)) (q_measU hm42 (by have o0 := c45; have o1 := (q_subN (lo := 0) (hi := 62) e58 r_7 rl_1 (by decide)).1; have o2 := h73.1; have o3 := r_7; have o4 := r_9; have o5 := r_8; have o6 := h73.2; have l7 := tl_1; unfold q_r at o3 o4 o5 o6; omega) (h73.2).2)
      refine q_lv [3, 2, 1, 0] rfl ?_
      exact J42 _ 0 1 (q_r.mono rl_1 (by decide)) (Nat.lt_succ_self _)
    intro c25
    have r_10 := q_zge (q_r_any x2) c11
    refine q_iload_n (pc := 28) hG dX12_pinned_28 0 rfl ?_
    exact q_irt hG hE dX12_pinned_29 ⟨w18, (q_r.mono p18.2.1 (by decide))⟩
  intro c11
  refine q_iconst (pc := 14) hG dX12_pinned_14 ki_m1 ?_
  exact q_irt hG hE dX12_pinned_15 ⟨hS0, (q_r.mono rl_m1 (by decide))⟩
