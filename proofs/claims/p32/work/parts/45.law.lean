/-! laid by wip/p2/build.py -/
theorem dX12_readsCondition_0 : decode cX12_readsCondition 0 = .ok (.aload_n 0, 1) := by decide +kernel
theorem dX12_readsCondition_1 : decode cX12_readsCondition 1 = .ok (.invokevirtual 132, 3) := by decide +kernel
theorem dX12_readsCondition_4 : decode cX12_readsCondition 4 = .ok (.bipush 40, 2) := by decide +kernel
theorem dX12_readsCondition_6 : decode cX12_readsCondition 6 = .ok (.if_icmp .eq 13, 3) := by decide +kernel
theorem dX12_readsCondition_9 : decode cX12_readsCondition 9 = .ok (.aload_n 0, 1) := by decide +kernel
theorem dX12_readsCondition_10 : decode cX12_readsCondition 10 = .ok (.iconst 1, 1) := by decide +kernel
theorem dX12_readsCondition_11 : decode cX12_readsCondition 11 = .ok (.aload_n 0, 1) := by decide +kernel
theorem dX12_readsCondition_12 : decode cX12_readsCondition 12 = .ok (.getfield 126, 3) := by decide +kernel
theorem dX12_readsCondition_15 : decode cX12_readsCondition 15 = .ok (.invokevirtual 139, 3) := by decide +kernel
theorem dX12_readsCondition_18 : decode cX12_readsCondition 18 = .ok (.ireturn, 1) := by decide +kernel
theorem dX12_readsCondition_19 : decode cX12_readsCondition 19 = .ok (.aload_n 0, 1) := by decide +kernel
theorem dX12_readsCondition_20 : decode cX12_readsCondition 20 = .ok (.iconst 0, 1) := by decide +kernel
theorem dX12_readsCondition_21 : decode cX12_readsCondition 21 = .ok (.putfield 154, 3) := by decide +kernel
theorem dX12_readsCondition_24 : decode cX12_readsCondition 24 = .ok (.aload_n 0, 1) := by decide +kernel
theorem dX12_readsCondition_25 : decode cX12_readsCondition 25 = .ok (.iconst 0, 1) := by decide +kernel
theorem dX12_readsCondition_26 : decode cX12_readsCondition 26 = .ok (.putfield 157, 3) := by decide +kernel
theorem dX12_readsCondition_29 : decode cX12_readsCondition 29 = .ok (.aload_n 0, 1) := by decide +kernel
theorem dX12_readsCondition_30 : decode cX12_readsCondition 30 = .ok (.bipush 13, 2) := by decide +kernel
theorem dX12_readsCondition_32 : decode cX12_readsCondition 32 = .ok (.invokevirtual 167, 3) := by decide +kernel
theorem dX12_readsCondition_35 : decode cX12_readsCondition 35 = .ok (.ifCond .ne 5, 3) := by decide +kernel
theorem dX12_readsCondition_38 : decode cX12_readsCondition 38 = .ok (.iconst 0, 1) := by decide +kernel
theorem dX12_readsCondition_39 : decode cX12_readsCondition 39 = .ok (.ireturn, 1) := by decide +kernel
theorem dX12_readsCondition_40 : decode cX12_readsCondition 40 = .ok (.aload_n 0, 1) := by decide +kernel
theorem dX12_readsCondition_41 : decode cX12_readsCondition 41 = .ok (.invokevirtual 132, 3) := by decide +kernel
theorem dX12_readsCondition_44 : decode cX12_readsCondition 44 = .ok (.bipush 33, 2) := by decide +kernel
theorem dX12_readsCondition_46 : decode cX12_readsCondition 46 = .ok (.if_icmp .eq 12, 3) := by decide +kernel
theorem dX12_readsCondition_49 : decode cX12_readsCondition 49 = .ok (.aload_n 0, 1) := by decide +kernel
theorem dX12_readsCondition_50 : decode cX12_readsCondition 50 = .ok (.invokevirtual 132, 3) := by decide +kernel
theorem dX12_readsCondition_53 : decode cX12_readsCondition 53 = .ok (.bipush 40, 2) := by decide +kernel
theorem dX12_readsCondition_55 : decode cX12_readsCondition 55 = .ok (.if_icmp .ne 28, 3) := by decide +kernel
theorem dX12_readsCondition_58 : decode cX12_readsCondition 58 = .ok (.aload_n 0, 1) := by decide +kernel
theorem dX12_readsCondition_59 : decode cX12_readsCondition 59 = .ok (.aload_n 0, 1) := by decide +kernel
theorem dX12_readsCondition_60 : decode cX12_readsCondition 60 = .ok (.invokevirtual 132, 3) := by decide +kernel
theorem dX12_readsCondition_63 : decode cX12_readsCondition 63 = .ok (.bipush 33, 2) := by decide +kernel
theorem dX12_readsCondition_65 : decode cX12_readsCondition 65 = .ok (.if_icmp .ne 8, 3) := by decide +kernel
theorem dX12_readsCondition_68 : decode cX12_readsCondition 68 = .ok (.bipush 10, 2) := by decide +kernel
theorem dX12_readsCondition_70 : decode cX12_readsCondition 70 = .ok (.goto 5, 3) := by decide +kernel
theorem dX12_readsCondition_73 : decode cX12_readsCondition 73 = .ok (.bipush 13, 2) := by decide +kernel
theorem dX12_readsCondition_75 : decode cX12_readsCondition 75 = .ok (.invokevirtual 167, 3) := by decide +kernel
theorem dX12_readsCondition_78 : decode cX12_readsCondition 78 = .ok (.ifCond .ne (-38), 3) := by decide +kernel
theorem dX12_readsCondition_81 : decode cX12_readsCondition 81 = .ok (.iconst 0, 1) := by decide +kernel
theorem dX12_readsCondition_82 : decode cX12_readsCondition 82 = .ok (.ireturn, 1) := by decide +kernel
theorem dX12_readsCondition_83 : decode cX12_readsCondition 83 = .ok (.aload_n 0, 1) := by decide +kernel
theorem dX12_readsCondition_84 : decode cX12_readsCondition 84 = .ok (.invokevirtual 196, 3) := by decide +kernel
theorem dX12_readsCondition_87 : decode cX12_readsCondition 87 = .ok (.ifCond .ne 5, 3) := by decide +kernel
theorem dX12_readsCondition_90 : decode cX12_readsCondition 90 = .ok (.iconst 0, 1) := by decide +kernel
theorem dX12_readsCondition_91 : decode cX12_readsCondition 91 = .ok (.ireturn, 1) := by decide +kernel
theorem dX12_readsCondition_92 : decode cX12_readsCondition 92 = .ok (.aload_n 0, 1) := by decide +kernel
theorem dX12_readsCondition_93 : decode cX12_readsCondition 93 = .ok (.invokevirtual 132, 3) := by decide +kernel
theorem dX12_readsCondition_96 : decode cX12_readsCondition 96 = .ok (.bipush 41, 2) := by decide +kernel
theorem dX12_readsCondition_98 : decode cX12_readsCondition 98 = .ok (.if_icmp .ne 54, 3) := by decide +kernel
theorem dX12_readsCondition_101 : decode cX12_readsCondition 101 = .ok (.aload_n 0, 1) := by decide +kernel
theorem dX12_readsCondition_102 : decode cX12_readsCondition 102 = .ok (.iconst 1, 1) := by decide +kernel
theorem dX12_readsCondition_103 : decode cX12_readsCondition 103 = .ok (.invokevirtual 199, 3) := by decide +kernel
theorem dX12_readsCondition_106 : decode cX12_readsCondition 106 = .ok (.aload_n 0, 1) := by decide +kernel
theorem dX12_readsCondition_107 : decode cX12_readsCondition 107 = .ok (.aload_n 0, 1) := by decide +kernel
theorem dX12_readsCondition_108 : decode cX12_readsCondition 108 = .ok (.getfield 157, 3) := by decide +kernel
theorem dX12_readsCondition_111 : decode cX12_readsCondition 111 = .ok (.iconst 1, 1) := by decide +kernel
theorem dX12_readsCondition_112 : decode cX12_readsCondition 112 = .ok (.isub, 1) := by decide +kernel
theorem dX12_readsCondition_113 : decode cX12_readsCondition 113 = .ok (.putfield 157, 3) := by decide +kernel
theorem dX12_readsCondition_116 : decode cX12_readsCondition 116 = .ok (.aload_n 0, 1) := by decide +kernel
theorem dX12_readsCondition_117 : decode cX12_readsCondition 117 = .ok (.aload_n 0, 1) := by decide +kernel
theorem dX12_readsCondition_118 : decode cX12_readsCondition 118 = .ok (.getfield 154, 3) := by decide +kernel
theorem dX12_readsCondition_121 : decode cX12_readsCondition 121 = .ok (.iconst 1, 1) := by decide +kernel
theorem dX12_readsCondition_122 : decode cX12_readsCondition 122 = .ok (.isub, 1) := by decide +kernel
theorem dX12_readsCondition_123 : decode cX12_readsCondition 123 = .ok (.putfield 154, 3) := by decide +kernel
theorem dX12_readsCondition_126 : decode cX12_readsCondition 126 = .ok (.aload_n 0, 1) := by decide +kernel
theorem dX12_readsCondition_127 : decode cX12_readsCondition 127 = .ok (.aload_n 0, 1) := by decide +kernel
theorem dX12_readsCondition_128 : decode cX12_readsCondition 128 = .ok (.getfield 126, 3) := by decide +kernel
theorem dX12_readsCondition_131 : decode cX12_readsCondition 131 = .ok (.iconst 1, 1) := by decide +kernel
theorem dX12_readsCondition_132 : decode cX12_readsCondition 132 = .ok (.iadd, 1) := by decide +kernel
theorem dX12_readsCondition_133 : decode cX12_readsCondition 133 = .ok (.putfield 126, 3) := by decide +kernel
theorem dX12_readsCondition_136 : decode cX12_readsCondition 136 = .ok (.aload_n 0, 1) := by decide +kernel
theorem dX12_readsCondition_137 : decode cX12_readsCondition 137 = .ok (.getfield 157, 3) := by decide +kernel
theorem dX12_readsCondition_140 : decode cX12_readsCondition 140 = .ok (.ifCond .ne 5, 3) := by decide +kernel
theorem dX12_readsCondition_143 : decode cX12_readsCondition 143 = .ok (.iconst 1, 1) := by decide +kernel
theorem dX12_readsCondition_144 : decode cX12_readsCondition 144 = .ok (.ireturn, 1) := by decide +kernel
theorem dX12_readsCondition_145 : decode cX12_readsCondition 145 = .ok (.aload_n 0, 1) := by decide +kernel
theorem dX12_readsCondition_146 : decode cX12_readsCondition 146 = .ok (.invokevirtual 193, 3) := by decide +kernel
theorem dX12_readsCondition_149 : decode cX12_readsCondition 149 = .ok (.goto (-57), 3) := by decide +kernel
theorem dX12_readsCondition_152 : decode cX12_readsCondition 152 = .ok (.aload_n 0, 1) := by decide +kernel
theorem dX12_readsCondition_153 : decode cX12_readsCondition 153 = .ok (.invokevirtual 132, 3) := by decide +kernel
theorem dX12_readsCondition_156 : decode cX12_readsCondition 156 = .ok (.bipush 38, 2) := by decide +kernel
theorem dX12_readsCondition_158 : decode cX12_readsCondition 158 = .ok (.if_icmp .eq 22, 3) := by decide +kernel
theorem dX12_readsCondition_161 : decode cX12_readsCondition 161 = .ok (.aload_n 0, 1) := by decide +kernel
theorem dX12_readsCondition_162 : decode cX12_readsCondition 162 = .ok (.invokevirtual 132, 3) := by decide +kernel
theorem dX12_readsCondition_165 : decode cX12_readsCondition 165 = .ok (.bipush 124, 2) := by decide +kernel
theorem dX12_readsCondition_167 : decode cX12_readsCondition 167 = .ok (.if_icmp .eq 13, 3) := by decide +kernel
theorem dX12_readsCondition_170 : decode cX12_readsCondition 170 = .ok (.aload_n 0, 1) := by decide +kernel
theorem dX12_readsCondition_171 : decode cX12_readsCondition 171 = .ok (.iconst 1, 1) := by decide +kernel
theorem dX12_readsCondition_172 : decode cX12_readsCondition 172 = .ok (.aload_n 0, 1) := by decide +kernel
theorem dX12_readsCondition_173 : decode cX12_readsCondition 173 = .ok (.getfield 126, 3) := by decide +kernel
theorem dX12_readsCondition_176 : decode cX12_readsCondition 176 = .ok (.invokevirtual 139, 3) := by decide +kernel
theorem dX12_readsCondition_179 : decode cX12_readsCondition 179 = .ok (.ireturn, 1) := by decide +kernel
theorem dX12_readsCondition_180 : decode cX12_readsCondition 180 = .ok (.aload_n 0, 1) := by decide +kernel
theorem dX12_readsCondition_181 : decode cX12_readsCondition 181 = .ok (.aload_n 0, 1) := by decide +kernel
theorem dX12_readsCondition_182 : decode cX12_readsCondition 182 = .ok (.invokevirtual 132, 3) := by decide +kernel
theorem dX12_readsCondition_185 : decode cX12_readsCondition 185 = .ok (.bipush 124, 2) := by decide +kernel
theorem dX12_readsCondition_187 : decode cX12_readsCondition 187 = .ok (.if_icmp .ne 7, 3) := by decide +kernel
theorem dX12_readsCondition_190 : decode cX12_readsCondition 190 = .ok (.iconst 1, 1) := by decide +kernel
theorem dX12_readsCondition_191 : decode cX12_readsCondition 191 = .ok (.goto 4, 3) := by decide +kernel
theorem dX12_readsCondition_194 : decode cX12_readsCondition 194 = .ok (.iconst 0, 1) := by decide +kernel
theorem dX12_readsCondition_195 : decode cX12_readsCondition 195 = .ok (.invokevirtual 199, 3) := by decide +kernel
theorem dX12_readsCondition_198 : decode cX12_readsCondition 198 = .ok (.aload_n 0, 1) := by decide +kernel
theorem dX12_readsCondition_199 : decode cX12_readsCondition 199 = .ok (.aload_n 0, 1) := by decide +kernel
theorem dX12_readsCondition_200 : decode cX12_readsCondition 200 = .ok (.invokevirtual 132, 3) := by decide +kernel
theorem dX12_readsCondition_203 : decode cX12_readsCondition 203 = .ok (.bipush 38, 2) := by decide +kernel
theorem dX12_readsCondition_205 : decode cX12_readsCondition 205 = .ok (.if_icmp .ne 8, 3) := by decide +kernel
theorem dX12_readsCondition_208 : decode cX12_readsCondition 208 = .ok (.bipush 11, 2) := by decide +kernel
theorem dX12_readsCondition_210 : decode cX12_readsCondition 210 = .ok (.goto 5, 3) := by decide +kernel
theorem dX12_readsCondition_213 : decode cX12_readsCondition 213 = .ok (.bipush 12, 2) := by decide +kernel
theorem dX12_readsCondition_215 : decode cX12_readsCondition 215 = .ok (.invokevirtual 202, 3) := by decide +kernel
theorem dX12_readsCondition_218 : decode cX12_readsCondition 218 = .ok (.goto (-178), 3) := by decide +kernel
def md_X12_readsCondition : List (Nat × Nat) := [(10, 5), (10, 7), (10, 8), (10, 9), (10, 10), (10, 11), (150, 0), (151, 0)]
set_option maxRecDepth 100000 in
set_option maxHeartbeats 4000000 in
theorem c_X12_readsCondition {l : Launch} {D : q_D} (τ : q_T) (σ : q_V) (a0 : Nat) (hI : q_I τ σ) (tA0 : τ a0 = some (10, 1)) (bs bw : Nat) (hbs : σ a0 15 = .ref bs) (hbw : σ a0 16 = .ref bw) (Tbs : τ bs = some (150, 260)) (Tbw : τ bw = some (151, 260)) (cq wq pq : Int32) (hcq : σ a0 10 = .int cq) (hwq : σ a0 11 = .int wq) (hpq : σ a0 5 = .int pq) (hcp : (0 ≤ cq.toInt ∧ cq.toInt ≤ pq.toInt) ∧ pq.toInt ≤ 260) : q_Ci l D yX12_readsCondition cX12_readsCondition 1 (some .boolean) 6 125 τ σ [.ref a0] (fun r σ1 => q_S md_X12_readsCondition τ σ σ1 ∧ (q_r r 0 1) ∧ ((r.toInt, fx_N σ1) = f_X12_readsCondition (fx_N σ) a0) ∧ (r.toInt = 1 → q_x (∃ c1 p1 : Int32, (σ1 a0 10 = .int c1 ∧ σ1 a0 5 = .int p1) ∧ (cq.toInt ≤ c1.toInt ∧ (c1.toInt ≤ p1.toInt ∧ p1.toInt ≤ 260) ∧ pq.toInt < p1.toInt) ∧ (∀ k : Nat, k < cq.toInt.toNat → σ1 bs k = σ bs k) ∧ q_seg σ1 bs cq.toInt.toNat c1.toInt.toNat))) := by
  refine q_meti rfl (Nat.le_of_ble_eq_true rfl) (fun X hG hE => ?_)
  show q_O X 0 0 τ σ 0 [(0, .ref a0)] []
  have hS0 : q_S md_X12_readsCondition τ σ σ := q_S.rf hI
  obtain ⟨Fv, hF⟩ : ∃ z, fx_eq z (f_X12_readsCondition (fx_N σ) a0) := ⟨_, fx_rf⟩
  have hF0 := hF
  unfold f_X12_readsCondition at hF
  obtain ⟨S0, hS0e⟩ : ∃ f : Nat → Value, f = σ bs := ⟨_, rfl⟩
  obtain ⟨F, hFe⟩ : ∃ n : Nat, n = cq.toInt.toNat := ⟨_, rfl⟩
  replace hF := fx_R hF hbs rfl
  replace hF := fx_R hF hbw rfl
  replace hF := fx_I hF hcq rfl
  replace hF := fx_I hF hwq rfl
  replace hF := fx_I hF hpq rfl
  refine q_aload_n (pc := 0) hG dX12_readsCondition_0 0 rfl ?_
  refine q_pV (pc := 1) [] [] hG (c_X12_here τ σ a0 hI tA0) my_X12_here mv_X12_here w879 dX12_readsCondition_1 tA0 (by decide) rfl rfl (Nat.le_of_ble_eq_true rfl) (by decide) (fun v1 p1 => ?_)
  replace hF := fx_E hF p1.2.1
  refine q_bipush (pc := 4) hG dX12_readsCondition_4 kb_40 ?_
  refine q_icmp_eq (pc := 6) hG 19 dX12_readsCondition_6 rfl ?_ ?_
  · intro c6
    replace hF := fx_eq1 hF rfl tl_40 c6
    refine q_aload_n (pc := 19) hG dX12_readsCondition_19 0 rfl ?_
    refine q_iconst (pc := 20) hG dX12_readsCondition_20 ki_0 ?_
    refine q_putI (pc := 21) hG fl_X12_154 dX12_readsCondition_21 hS0 tA0 ff_10_9 rl_0 (by decide) rfl (fun s21 u21 w21 => ?_)
    replace hF := fx_P hF u21 rfl tl_0
    have m21 : s21 a0 9 = .int 0 := by rw [u21]; exact q_up_same
    refine q_aload_n (pc := 24) hG dX12_readsCondition_24 0 rfl ?_
    refine q_iconst (pc := 25) hG dX12_readsCondition_25 ki_0 ?_
    refine q_putI (pc := 26) hG fl_X12_157 dX12_readsCondition_26 w21 tA0 ff_10_11 rl_0 (by decide) rfl (fun s26 u26 w26 => ?_)
    replace hF := fx_P hF u26 rfl tl_0
    have m26 : s26 a0 11 = .int 0 := by rw [u26]; exact q_up_same
    have r_1 := q_req rl_40 c6
    have Q26 : q_cn (s26 bs) (s26 bw) S0 F cq.toInt (0 : Int32).toInt 0 pq.toInt 0 := by
      rw [((by rw [u26]; exact q_upK Tbs tA0 (by decide) : s26 bs = s21 bs).trans (by rw [u21]; exact q_upK Tbs tA0 (by decide) : s21 bs = σ bs)), tl_0, hS0e, hFe]
      exact q_cn.new (by have o0 := hcp; have o1 := (p1.2.2.1 pq hpq); have o2 := p1.2.2.2; have o3 := c6; have o4 := (show q_r cq 0 260 from ⟨by have q := hcp; omega, by have q := hcp; omega⟩); have o5 := (show q_r pq 0 260 from ⟨by have q := hcp; omega, by have q := hcp; omega⟩); have o6 := r_1; have l7 := tl_40; unfold q_r at o4 o5 o6; omega)
    refine q_aload_n (pc := 29) hG dX12_readsCondition_29 0 rfl ?_
    refine q_bipush (pc := 30) hG dX12_readsCondition_30 kb_13 ?_
    refine q_cVi (pc := 32) [.int 13] [] hG (c_X12_opens τ s26 a0 13 w26.1 tA0 (q_r.mono rl_13 (by decide)) bw (w26.same tA0 rfl hbw) Tbw (0 : Int32) pq m26 (by rw [u26]; exact (q_up_else (Or.inr (by decide))).trans (by rw [u21]; exact (q_up_else (Or.inr (by decide))).trans hpq)) (q_r.mono rl_0 (by decide)) (show q_r pq 0 259 from ⟨(by have o0 := hcp; have o1 := (p1.2.2.1 pq hpq); have o2 := p1.2.2.2; have o3 := c6; have o4 := Q26.rng; have o5 := (show q_r cq 0 260 from ⟨by have q := hcp; omega, by have q := hcp; omega⟩); have o6 := (show q_r pq 0 260 from ⟨by have q := hcp; omega, by have q := hcp; omega⟩); have o7 := r_1; have l8 := tl_0; have l9 := tl_40; unfold q_r at o5 o6 o7; omega), (by have o0 := hcp; have o1 := (p1.2.2.1 pq hpq); have o2 := p1.2.2.2; have o3 := c6; have o4 := Q26.rng; have o5 := (show q_r cq 0 260 from ⟨by have q := hcp; omega, by have q := hcp; omega⟩); have o6 := (show q_r pq 0 260 from ⟨by have q := hcp; omega, by have q := hcp; omega⟩); have o7 := r_1; have l8 := tl_0; have l9 := tl_40; unfold q_r at o5 o6 o7; omega)⟩)) my_X12_opens mv_X12_opens w913 dX12_readsCondition_32 tA0 (by decide) rfl rfl (Nat.le_of_ble_eq_true rfl) (by decide) (fun v32 s32 p32 => ?_)
    have w32 := w26.trans p32.1 rfl
    have fq32 := p32.2.2.1
    rewrite [tl_13] at fq32
    replace hF := fx_C hF fq32
    have J40 : ∀ (n40 : Nat) (σ40 : q_V) (cq40 : Int32) (wq40 : Int32) (pq40 : Int32), (q_S md_X12_readsCondition τ σ σ40) → ((σ40 a0 10 = .int cq40 ∧ σ40 a0 11 = .int wq40 ∧ σ40 a0 5 = .int pq40) ∧ q_cn (σ40 bs) (σ40 bw) S0 F cq40.toInt wq40.toInt 0 pq40.toInt 0 ∧ (1 ≤ wq40.toInt ∧ pq.toInt < pq40.toInt)) → (fx_eq Fv (kL_X12_readsCondition_40 a0 n40 (fx_N σ40) cq40.toInt wq40.toInt pq40.toInt)) → ((260 - pq40.toInt).toNat < n40) → q_O X 0 0 τ σ40 40 [(0, .ref a0)] [] := by
      intro n40
      induction n40 with
      | zero => intro σ40 cq40 wq40 pq40 hS40 iQ40 hF hm40; exact absurd hm40 (Nat.not_lt_zero _)
      | succ n40 ih40 =>
        intro σ40 cq40 wq40 pq40 hS40 iQ40 hF hm40
        replace hF := (show fx_eq Fv (kB_X12_readsCondition_40 (kL_X12_readsCondition_40 a0 n40) a0 (fx_N σ40) cq40.toInt wq40.toInt pq40.toInt) from hF)
        unfold kB_X12_readsCondition_40 at hF
        refine q_aload_n (pc := 40) hG dX12_readsCondition_40 0 rfl ?_
        refine q_pV (pc := 41) [] [] hG (c_X12_here τ σ40 a0 hS40.1 tA0) my_X12_here mv_X12_here w879 dX12_readsCondition_41 tA0 (by decide) rfl rfl (Nat.le_of_ble_eq_true rfl) (by decide) (fun v41 p41 => ?_)
        replace hF := fx_E hF p41.2.1
        refine q_bipush (pc := 44) hG dX12_readsCondition_44 kb_33 ?_
        have J58 : (pq40.toInt ≤ 259) → (fx_eq Fv (kJ_X12_readsCondition_58 (fx_N σ40) a0 (kL_X12_readsCondition_40 a0 n40) cq40.toInt)) → q_O X 0 0 τ σ40 58 [(0, .ref a0)] [] := by
          intro iP58 hF
          unfold kJ_X12_readsCondition_58 at hF
          refine q_aload_n (pc := 58) hG dX12_readsCondition_58 0 rfl ?_
          refine q_aload_n (pc := 59) hG dX12_readsCondition_59 0 rfl ?_
          refine q_pV (pc := 60) [] [.ref a0] hG (c_X12_here τ σ40 a0 hS40.1 tA0) my_X12_here mv_X12_here w879 dX12_readsCondition_60 tA0 (by decide) rfl rfl (Nat.le_of_ble_eq_true rfl) (by decide) (fun v60 p60 => ?_)
          replace hF := fx_E hF p60.2.1
          refine q_bipush (pc := 63) hG dX12_readsCondition_63 kb_33 ?_
          have J75 : ∀ (p75_s0 : Int32), (q_r p75_s0 10 13) → (p75_s0.toInt = 10 ∨ p75_s0.toInt = 13) → (fx_eq Fv (kJ_X12_readsCondition_75 (fx_N σ40) a0 (kL_X12_readsCondition_40 a0 n40) cq40.toInt p75_s0.toInt)) → q_O X 0 0 τ σ40 75 [(0, .ref a0)] [.int p75_s0, .ref a0] := by
            intro p75_s0 r75_s0 iO75 hF
            unfold kJ_X12_readsCondition_75 at hF
            have r_2 := (show q_r cq40 0 260 from ⟨by have q := iQ40.2.1.rng; omega, by have q := iQ40.2.1.rng; omega⟩)
            have r_3 := (show q_r pq40 0 260 from ⟨by have q := iQ40.2.1.rng; omega, by have q := iQ40.2.1.rng; omega⟩)
            have r_4 := (show q_r wq40 0 260 from ⟨by have q := iQ40.2.1.rng; omega, by have q := iQ40.2.1.rng; omega⟩)
            refine q_cVi (pc := 75) [.int p75_s0] [] hG (c_X12_opens τ σ40 a0 p75_s0 hS40.1 tA0 (q_r.mono r75_s0 (by decide)) bw (hS40.same tA0 rfl hbw) Tbw wq40 pq40 iQ40.1.2.1 iQ40.1.2.2 (show q_r wq40 0 259 from ⟨(by have o0 := iQ40.2.1.rng; have o1 := iQ40.2.2.1; have o2 := iQ40.2.2.2; have o3 := (p41.2.2.1 pq40 iQ40.1.2.2); have o4 := p41.2.2.2; have o5 := iP58; have o6 := p60.2.2.2; have o7 := hcp; have o8 := (p1.2.2.1 pq hpq); have o9 := p1.2.2.2; have o10 := c6; have o11 := Q26.rng; have o12 := (show q_r cq 0 260 from ⟨by have q := hcp; omega, by have q := hcp; omega⟩); have o13 := r_2; have o14 := (show q_r pq 0 260 from ⟨by have q := hcp; omega, by have q := hcp; omega⟩); have o15 := r_3; have o16 := r_1; have o17 := p41.1; have o18 := p60.1; have o19 := r_4; have l20 := tl_0; have l21 := tl_40; unfold q_r at o12 o13 o14 o15 o16 o17 o18 o19; omega), (by have o0 := iQ40.2.1.rng; have o1 := iQ40.2.2.1; have o2 := iQ40.2.2.2; have o3 := (p41.2.2.1 pq40 iQ40.1.2.2); have o4 := p41.2.2.2; have o5 := iP58; have o6 := p60.2.2.2; have o7 := hcp; have o8 := (p1.2.2.1 pq hpq); have o9 := p1.2.2.2; have o10 := c6; have o11 := Q26.rng; have o12 := (show q_r cq 0 260 from ⟨by have q := hcp; omega, by have q := hcp; omega⟩); have o13 := r_2; have o14 := (show q_r pq 0 260 from ⟨by have q := hcp; omega, by have q := hcp; omega⟩); have o15 := r_3; have o16 := r_1; have o17 := p41.1; have o18 := p60.1; have o19 := r_4; have l20 := tl_0; have l21 := tl_40; unfold q_r at o12 o13 o14 o15 o16 o17 o18 o19; omega)⟩) (show q_r pq40 0 259 from ⟨(by have o0 := iQ40.2.1.rng; have o1 := iQ40.2.2.1; have o2 := iQ40.2.2.2; have o3 := (p41.2.2.1 pq40 iQ40.1.2.2); have o4 := p41.2.2.2; have o5 := iP58; have o6 := p60.2.2.2; have o7 := hcp; have o8 := (p1.2.2.1 pq hpq); have o9 := p1.2.2.2; have o10 := c6; have o11 := Q26.rng; have o12 := (show q_r cq 0 260 from ⟨by have q := hcp; omega, by have q := hcp; omega⟩); have o13 := r_2; have o14 := (show q_r pq 0 260 from ⟨by have q := hcp; omega, by have q := hcp; omega⟩); have o15 := r_3; have o16 := r_1; have o17 := p41.1; have o18 := p60.1; have o19 := r_4; have l20 := tl_0; have l21 := tl_40; unfold q_r at o12 o13 o14 o15 o16 o17 o18 o19; omega), (by have o0 := iQ40.2.1.rng; have o1 := iQ40.2.2.1; have o2 := iQ40.2.2.2; have o3 := (p41.2.2.1 pq40 iQ40.1.2.2); have o4 := p41.2.2.2; have o5 := iP58; have o6 := p60.2.2.2; have o7 := hcp; have o8 := (p1.2.2.1 pq hpq); have o9 := p1.2.2.2; have o10 := c6; have o11 := Q26.rng; have o12 := (show q_r cq 0 260 from ⟨by have q := hcp; omega, by have q := hcp; omega⟩); have o13 := r_2; have o14 := (show q_r pq 0 260 from ⟨by have q := hcp; omega, by have q := hcp; omega⟩); have o15 := r_3; have o16 := r_1; have o17 := p41.1; have o18 := p60.1; have o19 := r_4; have l20 := tl_0; have l21 := tl_40; unfold q_r at o12 o13 o14 o15 o16 o17 o18 o19; omega)⟩)) my_X12_opens mv_X12_opens w913 dX12_readsCondition_75 tA0 (by decide) rfl rfl (Nat.le_of_ble_eq_true rfl) (by decide) (fun v75 s75 p75 => ?_)
            have w75 := hS40.trans p75.1 rfl
            replace hF := fx_C hF p75.2.2.1
            refine q_if_ne (pc := 78) hG 40 dX12_readsCondition_78 rfl ?_ ?_
            · intro c78
              have g_5 := p75.2.2.2 (q_one p75.2.1 c78)
              obtain ⟨y75, w1_75, p1_75, ey75, fy75, fw75, gw75, fp75, gp75⟩ := g_5
              have Q75 : q_cn (s75 bs) (s75 bw) S0 F cq40.toInt w1_75.toInt 0 p1_75.toInt 0 := by
                rw [((funext fun j => p75.1.2.arr Tbs (by decide) rfl) : s75 bs = σ40 bs), ey75, gw75, gp75]
                exact iQ40.2.1.opn (o := p75_s0.toInt) (by have o0 := iO75; have o1 := gw75; have o2 := fy75; have o3 := iQ40.2.1.rng; have o4 := iQ40.2.2.1; have o5 := iQ40.2.2.2; have o6 := (p41.2.2.1 pq40 iQ40.1.2.2); have o7 := p41.2.2.2; have o8 := iP58; have o9 := p60.2.2.2; have o10 := gp75; have o11 := hcp; have o12 := (p1.2.2.1 pq hpq); have o13 := p1.2.2.2; have o14 := c6; have o15 := Q26.rng; have o16 := (show q_r cq 0 260 from ⟨by have q := hcp; omega, by have q := hcp; omega⟩); have o17 := r_2; have o18 := r75_s0; have o19 := (show q_r pq 0 260 from ⟨by have q := hcp; omega, by have q := hcp; omega⟩); have o20 := r_3; have o21 := r_1; have o22 := p41.1; have o23 := p60.1; have o24 := r_4; have l25 := tl_0; have l26 := tl_40; unfold q_r at o16 o17 o18 o19 o20 o21 o22 o23 o24; omega) (by have o0 := iO75; have o1 := fy75; have o2 := r75_s0; unfold q_r at o2; omega) (by have o0 := iQ40.2.1.rng; have o1 := iQ40.2.2.1; have o2 := iQ40.2.2.2; have o3 := (p41.2.2.1 pq40 iQ40.1.2.2); have o4 := p41.2.2.2; have o5 := iP58; have o6 := p60.2.2.2; have o7 := gw75; have o8 := gp75; have o9 := hcp; have o10 := (p1.2.2.1 pq hpq); have o11 := p1.2.2.2; have o12 := c6; have o13 := Q26.rng; have o14 := (show q_r cq 0 260 from ⟨by have q := hcp; omega, by have q := hcp; omega⟩); have o15 := r_2; have o16 := (show q_r pq 0 260 from ⟨by have q := hcp; omega, by have q := hcp; omega⟩); have o17 := r_3; have o18 := r_1; have o19 := p41.1; have o20 := p60.1; have o21 := r_4; have l22 := tl_0; have l23 := tl_40; unfold q_r at o14 o15 o16 o17 o18 o19 o20 o21; omega)
              replace hF := fx_eq2 hF rfl rfl c78
              replace hF := fx_I hF fw75 rfl
              replace hF := fx_I hF fp75 rfl
              refine q_lv [0] rfl ?_
              have r_6 := (show q_r p1_75 0 260 from ⟨by have q := Q75.rng; omega, by have q := Q75.rng; omega⟩)
              have r_7 := (show q_r w1_75 0 260 from ⟨by have q := Q75.rng; omega, by have q := Q75.rng; omega⟩)
              exact ih40 s75 cq40 w1_75 p1_75 w75 ⟨⟨(p75.1.same tA0 rfl iQ40.1.1), fw75, fp75⟩, Q75, ⟨(by have o0 := gw75; have o1 := Q75.rng; have o2 := iQ40.2.1.rng; have o3 := iQ40.2.2.1; have o4 := iQ40.2.2.2; have o5 := (p41.2.2.1 pq40 iQ40.1.2.2); have o6 := p41.2.2.2; have o7 := iP58; have o8 := p60.2.2.2; have o9 := gp75; have o10 := hcp; have o11 := (p1.2.2.1 pq hpq); have o12 := p1.2.2.2; have o13 := c6; have o14 := Q26.rng; have o15 := (show q_r cq 0 260 from ⟨by have q := hcp; omega, by have q := hcp; omega⟩); have o16 := r_2; have o17 := r_6; have o18 := (show q_r pq 0 260 from ⟨by have q := hcp; omega, by have q := hcp; omega⟩); have o19 := r_3; have o20 := r_1; have o21 := p41.1; have o22 := p60.1; have o23 := r_7; have o24 := r_4; have l25 := tl_0; have l26 := tl_40; unfold q_r at o15 o16 o17 o18 o19 o20 o21 o22 o23 o24; omega), (by have o0 := hcp; have o1 := (p1.2.2.1 pq hpq); have o2 := p1.2.2.2; have o3 := c6; have o4 := Q26.rng; have o5 := iQ40.2.2.2; have o6 := (p41.2.2.1 pq40 iQ40.1.2.2); have o7 := p41.2.2.2; have o8 := iP58; have o9 := p60.2.2.2; have o10 := gp75; have o11 := Q75.rng; have o12 := iQ40.2.1.rng; have o13 := iQ40.2.2.1; have o14 := gw75; have o15 := (show q_r cq 0 260 from ⟨by have q := hcp; omega, by have q := hcp; omega⟩); have o16 := r_2; have o17 := r_6; have o18 := (show q_r pq 0 260 from ⟨by have q := hcp; omega, by have q := hcp; omega⟩); have o19 := r_3; have o20 := r_1; have o21 := p41.1; have o22 := p60.1; have o23 := r_7; have o24 := r_4; have l25 := tl_0; have l26 := tl_40; unfold q_r at o15 o16 o17 o18 o19 o20 o21 o22 o23 o24; omega)⟩⟩ hF (by have o0 := iQ40.2.1.rng; have o1 := iQ40.2.2.1; have o2 := iQ40.2.2.2; have o3 := (p41.2.2.1 pq40 iQ40.1.2.2); have o4 := p41.2.2.2; have o5 := iP58; have o6 := p60.2.2.2; have o7 := gw75; have o8 := gp75; have o9 := Q75.rng; have o10 := hcp; have o11 := (p1.2.2.1 pq hpq); have o12 := p1.2.2.2; have o13 := c6; have o14 := Q26.rng; have o15 := (show q_r cq 0 260 from ⟨by have q := hcp; omega, by have q := hcp; omega⟩); have o16 := r_2; have o17 := r_6; have o18 := (show q_r pq 0 260 from ⟨by have q := hcp; omega, by have q := hcp; omega⟩); have o19 := r_3; have o20 := r_1; have o21 := p41.1; have o22 := p60.1; have o23 := r_7; have o24 := r_4; have l25 := tl_0; have l26 := tl_40; have o27 := hm40; unfold q_r at o15 o16 o17 o18 o19 o20 o21 o22 o23 o24; omega)
            intro c78
            replace hF := fx_eq1 hF rfl rfl c78
            refine q_iconst (pc := 81) hG dX12_readsCondition_81 ki_0 ?_
            exact q_zrt hG hE dX12_readsCondition_82 (q_r.mono rl_0 (by decide)) ⟨w75, (q_r.mono rl_0 (by decide)), (by rw [tl_0]; exact fx_end hF hF0), (fun q => absurd q (by have l0 := tl_0; omega))⟩
          refine q_icmp_ne (pc := 65) hG 73 dX12_readsCondition_65 rfl ?_ ?_
          · intro c65
            replace hF := fx_eq2 hF rfl tl_33 c65
            refine q_bipush (pc := 73) hG dX12_readsCondition_73 kb_13 ?_
            refine q_lv [0] rfl ?_
            exact J75 13 (q_r.mono rl_13 (by decide)) (by have l0 := tl_13; omega) (by rw [tl_13]; exact hF)
          intro c65
          replace hF := fx_eq1 hF rfl tl_33 c65
          refine q_bipush (pc := 68) hG dX12_readsCondition_68 kb_10 ?_
          refine q_goto (pc := 70) 75 hG dX12_readsCondition_70 rfl ?_
          refine q_lv [0] rfl ?_
          exact J75 10 (q_r.mono rl_10 (by decide)) (by have l0 := tl_10; omega) (by rw [tl_10]; exact hF)
        refine q_icmp_eq (pc := 46) hG 58 dX12_readsCondition_46 rfl ?_ ?_
        · intro c46
          replace hF := fx_eq1 hF rfl tl_33 c46
          refine q_lv [0] rfl ?_
          have r_8 := (show q_r cq40 0 260 from ⟨by have q := iQ40.2.1.rng; omega, by have q := iQ40.2.1.rng; omega⟩)
          have r_9 := (show q_r pq40 0 260 from ⟨by have q := iQ40.2.1.rng; omega, by have q := iQ40.2.1.rng; omega⟩)
          have r_10 := q_req rl_33 c46
          have r_11 := (show q_r wq40 0 260 from ⟨by have q := iQ40.2.1.rng; omega, by have q := iQ40.2.1.rng; omega⟩)
          exact J58 (by have o0 := iQ40.2.1.rng; have o1 := iQ40.2.2.1; have o2 := iQ40.2.2.2; have o3 := (p41.2.2.1 pq40 iQ40.1.2.2); have o4 := p41.2.2.2; have o5 := c46; have o6 := hcp; have o7 := (p1.2.2.1 pq hpq); have o8 := p1.2.2.2; have o9 := c6; have o10 := Q26.rng; have o11 := (show q_r cq 0 260 from ⟨by have q := hcp; omega, by have q := hcp; omega⟩); have o12 := r_8; have o13 := (show q_r pq 0 260 from ⟨by have q := hcp; omega, by have q := hcp; omega⟩); have o14 := r_9; have o15 := r_1; have o16 := r_10; have o17 := r_11; have l18 := tl_0; have l19 := tl_33; have l20 := tl_40; unfold q_r at o11 o12 o13 o14 o15 o16 o17; omega) hF
        intro c46
        replace hF := fx_eq2 hF rfl tl_33 c46
        refine q_aload_n (pc := 49) hG dX12_readsCondition_49 0 rfl ?_
        refine q_pV (pc := 50) [] [] hG (c_X12_here τ σ40 a0 hS40.1 tA0) my_X12_here mv_X12_here w879 dX12_readsCondition_50 tA0 (by decide) rfl rfl (Nat.le_of_ble_eq_true rfl) (by decide) (fun v50 p50 => ?_)
        replace hF := fx_E hF p50.2.1
        refine q_bipush (pc := 53) hG dX12_readsCondition_53 kb_40 ?_
        refine q_icmp_ne (pc := 55) hG 83 dX12_readsCondition_55 rfl ?_ ?_
        · intro c55
          replace hF := fx_eq2 hF rfl tl_40 c55
          refine q_aload_n (pc := 83) hG dX12_readsCondition_83 0 rfl ?_
          have r_12 := (show q_r cq40 0 260 from ⟨by have q := iQ40.2.1.rng; omega, by have q := iQ40.2.1.rng; omega⟩)
          have r_13 := (show q_r pq40 0 260 from ⟨by have q := iQ40.2.1.rng; omega, by have q := iQ40.2.1.rng; omega⟩)
          have r_14 := (show q_r wq40 0 260 from ⟨by have q := iQ40.2.1.rng; omega, by have q := iQ40.2.1.rng; omega⟩)
          refine q_cVi (pc := 84) [] [] hG (c_X12_readsCompared τ σ40 a0 hS40.1 tA0 bs bw (hS40.same tA0 rfl hbs) (hS40.same tA0 rfl hbw) Tbs Tbw cq40 wq40 pq40 iQ40.1.1 iQ40.1.2.1 iQ40.1.2.2 S0 F iQ40.2.1 (by have o0 := iQ40.2.1.rng; have o1 := iQ40.2.2.1; have o2 := iQ40.2.2.2; have o3 := (p41.2.2.1 pq40 iQ40.1.2.2); have o4 := p41.2.2.2; have o5 := c46; have o6 := p50.2.2.2; have o7 := c55; have o8 := hcp; have o9 := (p1.2.2.1 pq hpq); have o10 := p1.2.2.2; have o11 := c6; have o12 := Q26.rng; have o13 := (show q_r cq 0 260 from ⟨by have q := hcp; omega, by have q := hcp; omega⟩); have o14 := r_12; have o15 := (show q_r pq 0 260 from ⟨by have q := hcp; omega, by have q := hcp; omega⟩); have o16 := r_13; have o17 := r_1; have o18 := p41.1; have o19 := p50.1; have o20 := r_14; have l21 := tl_0; have l22 := tl_33; have l23 := tl_40; unfold q_r at o13 o14 o15 o16 o17 o18 o19 o20; omega)) my_X12_readsCompared mv_X12_readsCompared w941 dX12_readsCondition_84 tA0 (by decide) rfl rfl (Nat.le_of_ble_eq_true rfl) (by decide) (fun v84 s84 p84 => ?_)
          have w84 := hS40.trans p84.1 rfl
          replace hF := fx_C hF p84.2.2.1
          have J92 : ∀ (n92 : Nat) (σ92 : q_V) (cq92 : Int32) (wq92 : Int32) (pq92 : Int32), (q_S md_X12_readsCondition τ σ σ92) → ((σ92 a0 10 = .int cq92 ∧ σ92 a0 11 = .int wq92 ∧ σ92 a0 5 = .int pq92) ∧ q_cn (σ92 bs) (σ92 bw) S0 F cq92.toInt wq92.toInt 0 pq92.toInt 1 ∧ (1 ≤ wq92.toInt ∧ pq40.toInt < pq92.toInt)) → (fx_eq Fv (kL_X12_readsCondition_92 a0 (kL_X12_readsCondition_40 a0 n40) n92 (fx_N σ92) cq92.toInt wq92.toInt pq92.toInt)) → ((260 - pq92.toInt).toNat < n92) → q_O X 0 0 τ σ92 92 [(0, .ref a0)] [] := by
            intro n92
            induction n92 with
            | zero => intro σ92 cq92 wq92 pq92 hS92 iQ92 hF hm92; exact absurd hm92 (Nat.not_lt_zero _)
            | succ n92 ih92 =>
              intro σ92 cq92 wq92 pq92 hS92 iQ92 hF hm92
              replace hF := (show fx_eq Fv (kB_X12_readsCondition_92 (kL_X12_readsCondition_92 a0 (kL_X12_readsCondition_40 a0 n40) n92) a0 (kL_X12_readsCondition_40 a0 n40) (fx_N σ92) cq92.toInt wq92.toInt pq92.toInt) from hF)
              unfold kB_X12_readsCondition_92 at hF
              refine q_aload_n (pc := 92) hG dX12_readsCondition_92 0 rfl ?_
              refine q_pV (pc := 93) [] [] hG (c_X12_here τ σ92 a0 hS92.1 tA0) my_X12_here mv_X12_here w879 dX12_readsCondition_93 tA0 (by decide) rfl rfl (Nat.le_of_ble_eq_true rfl) (by decide) (fun v93 p93 => ?_)
              replace hF := fx_E hF p93.2.1
              refine q_bipush (pc := 96) hG dX12_readsCondition_96 kb_41 ?_
              refine q_icmp_ne (pc := 98) hG 152 dX12_readsCondition_98 rfl ?_ ?_
              · intro c98
                replace hF := fx_eq2 hF rfl tl_41 c98
                refine q_aload_n (pc := 152) hG dX12_readsCondition_152 0 rfl ?_
                refine q_pV (pc := 153) [] [] hG (c_X12_here τ σ92 a0 hS92.1 tA0) my_X12_here mv_X12_here w879 dX12_readsCondition_153 tA0 (by decide) rfl rfl (Nat.le_of_ble_eq_true rfl) (by decide) (fun v153 p153 => ?_)
                replace hF := fx_E hF p153.2.1
                refine q_bipush (pc := 156) hG dX12_readsCondition_156 kb_38 ?_
                have J180 : (pq92.toInt ≤ 259) → (fx_eq Fv (kJ_X12_readsCondition_180 (fx_N σ92) a0 (kL_X12_readsCondition_40 a0 n40))) → q_O X 0 0 τ σ92 180 [(0, .ref a0)] [] := by
                  intro iP180 hF
                  unfold kJ_X12_readsCondition_180 at hF
                  refine q_aload_n (pc := 180) hG dX12_readsCondition_180 0 rfl ?_
                  refine q_aload_n (pc := 181) hG dX12_readsCondition_181 0 rfl ?_
                  refine q_pV (pc := 182) [] [.ref a0] hG (c_X12_here τ σ92 a0 hS92.1 tA0) my_X12_here mv_X12_here w879 dX12_readsCondition_182 tA0 (by decide) rfl rfl (Nat.le_of_ble_eq_true rfl) (by decide) (fun v182 p182 => ?_)
                  replace hF := fx_E hF p182.2.1
                  refine q_bipush (pc := 185) hG dX12_readsCondition_185 kb_124 ?_
                  have J195 : ∀ (p195_s0 : Int32), (q_r p195_s0 0 1) → (fx_eq Fv (kJ_X12_readsCondition_195 (fx_N σ92) a0 (kL_X12_readsCondition_40 a0 n40) p195_s0.toInt)) → q_O X 0 0 τ σ92 195 [(0, .ref a0)] [.int p195_s0, .ref a0] := by
                    intro p195_s0 r195_s0 hF
                    unfold kJ_X12_readsCondition_195 at hF
                    have r_15 := (show q_r cq92 0 260 from ⟨by have q := iQ92.2.1.rng; omega, by have q := iQ92.2.1.rng; omega⟩)
                    have r_16 := (show q_r pq92 0 260 from ⟨by have q := iQ92.2.1.rng; omega, by have q := iQ92.2.1.rng; omega⟩)
                    have r_17 := (show q_r wq92 0 260 from ⟨by have q := iQ92.2.1.rng; omega, by have q := iQ92.2.1.rng; omega⟩)
                    refine q_cVv (pc := 195) [.int p195_s0] [] hG (c_X12_lands τ σ92 a0 p195_s0 hS92.1 tA0 r195_s0 bs bw (hS92.same tA0 rfl hbs) (hS92.same tA0 rfl hbw) Tbs Tbw cq92 wq92 pq92 iQ92.1.1 iQ92.1.2.1 iQ92.1.2.2 S0 F (0) iQ92.2.1 (by have o0 := iQ92.2.1.rng; have o1 := iQ92.2.2.1; have o2 := iQ92.2.2.2; have o3 := (p93.2.2.1 pq92 iQ92.1.2.2); have o4 := p93.2.2.2; have o5 := c98; have o6 := p153.2.2.2; have o7 := iP180; have o8 := p182.2.2.2; have o9 := iQ40.2.1.rng; have o10 := iQ40.2.2.1; have o11 := iQ40.2.2.2; have o12 := (p41.2.2.1 pq40 iQ40.1.2.2); have o13 := p41.2.2.2; have o14 := c46; have o15 := p50.2.2.2; have o16 := c55; have o17 := hcp; have o18 := (p1.2.2.1 pq hpq); have o19 := p1.2.2.2; have o20 := c6; have o21 := Q26.rng; have o22 := (show q_r cq 0 260 from ⟨by have q := hcp; omega, by have q := hcp; omega⟩); have o23 := r_12; have o24 := r_15; have o25 := (show q_r pq 0 260 from ⟨by have q := hcp; omega, by have q := hcp; omega⟩); have o26 := r_13; have o27 := r_16; have o28 := r_1; have o29 := p153.1; have o30 := p182.1; have o31 := p41.1; have o32 := p50.1; have o33 := p93.1; have o34 := r_14; have o35 := r_17; have l36 := tl_0; have l37 := tl_33; have l38 := tl_40; have l39 := tl_41; unfold q_r at o22 o23 o24 o25 o26 o27 o28 o29 o30 o31 o32 o33 o34 o35; omega)) my_X12_lands mv_X12_lands w947 dX12_readsCondition_195 tA0 (by decide) rfl rfl (Nat.le_of_ble_eq_true rfl) (by decide) (fun s195 p195 => ?_)
                    have w195 := hS92.trans p195.1 rfl
                    replace hF := fx_S hF p195.2.1
                    obtain ⟨w2_195, fw195, qq195, lw195, lt195⟩ := p195.2.2
                    have Q195 : q_cn (s195 bs) (s195 bw) S0 F cq92.toInt w2_195.toInt 0 pq92.toInt 1 := by
                      rw [((funext fun j => p195.1.2.arr Tbw (by decide) rfl) : s195 bw = σ92 bw)]
                      exact qq195
                    replace hF := fx_I hF fw195 rfl
                    refine q_aload_n (pc := 198) hG dX12_readsCondition_198 0 rfl ?_
                    refine q_aload_n (pc := 199) hG dX12_readsCondition_199 0 rfl ?_
                    refine q_pV (pc := 200) [] [.ref a0] hG (c_X12_here τ s195 a0 w195.1 tA0) my_X12_here mv_X12_here w879 dX12_readsCondition_200 tA0 (by decide) rfl rfl (Nat.le_of_ble_eq_true rfl) (by decide) (fun v200 p200 => ?_)
                    replace hF := fx_E hF p200.2.1
                    refine q_bipush (pc := 203) hG dX12_readsCondition_203 kb_38 ?_
                    have J215 : ∀ (p215_s0 : Int32), (q_r p215_s0 11 12) → (fx_eq Fv (kJ_X12_readsCondition_215 (fx_N s195) a0 (kL_X12_readsCondition_40 a0 n40) p215_s0.toInt)) → q_O X 0 0 τ s195 215 [(0, .ref a0)] [.int p215_s0, .ref a0] := by
                      intro p215_s0 r215_s0 hF
                      unfold kJ_X12_readsCondition_215 at hF
                      have r_18 := (show q_r w2_195 0 260 from ⟨by have q := Q195.rng; omega, by have q := Q195.rng; omega⟩)
                      refine q_cVv (pc := 215) [.int p215_s0] [] hG (c_X12_jumps τ s195 a0 p215_s0 w195.1 tA0 r215_s0 bs bw (w195.same tA0 rfl hbs) (w195.same tA0 rfl hbw) Tbs Tbw cq92 w2_195 pq92 (p195.1.same tA0 rfl iQ92.1.1) fw195 (p195.1.same tA0 rfl iQ92.1.2.2) S0 F Q195 (by have o0 := lw195; have o1 := Q195.rng; have o2 := (p200.2.2.1 pq92 (p195.1.same tA0 rfl iQ92.1.2.2)); have o3 := p200.2.2.2; have o4 := iQ92.2.1.rng; have o5 := iQ92.2.2.1; have o6 := iQ92.2.2.2; have o7 := (p93.2.2.1 pq92 iQ92.1.2.2); have o8 := p93.2.2.2; have o9 := c98; have o10 := p153.2.2.2; have o11 := iP180; have o12 := p182.2.2.2; have o13 := iQ40.2.1.rng; have o14 := iQ40.2.2.1; have o15 := iQ40.2.2.2; have o16 := (p41.2.2.1 pq40 iQ40.1.2.2); have o17 := p41.2.2.2; have o18 := c46; have o19 := p50.2.2.2; have o20 := c55; have o21 := hcp; have o22 := (p1.2.2.1 pq hpq); have o23 := p1.2.2.2; have o24 := c6; have o25 := Q26.rng; have o26 := (show q_r cq 0 260 from ⟨by have q := hcp; omega, by have q := hcp; omega⟩); have o27 := r_12; have o28 := r_15; have o29 := (show q_r pq 0 260 from ⟨by have q := hcp; omega, by have q := hcp; omega⟩); have o30 := r_13; have o31 := r_16; have o32 := r_1; have o33 := p153.1; have o34 := p182.1; have o35 := p200.1; have o36 := p41.1; have o37 := p50.1; have o38 := p93.1; have o39 := r_18; have o40 := r_14; have o41 := r_17; have l42 := tl_0; have l43 := tl_33; have l44 := tl_40; have l45 := tl_41; unfold q_r at o26 o27 o28 o29 o30 o31 o32 o33 o34 o35 o36 o37 o38 o39 o40 o41; omega) (by have o0 := iQ92.2.1.rng; have o1 := iQ92.2.2.1; have o2 := iQ92.2.2.2; have o3 := (p93.2.2.1 pq92 iQ92.1.2.2); have o4 := p93.2.2.2; have o5 := c98; have o6 := p153.2.2.2; have o7 := iP180; have o8 := p182.2.2.2; have o9 := Q195.rng; have o10 := (p200.2.2.1 pq92 (p195.1.same tA0 rfl iQ92.1.2.2)); have o11 := p200.2.2.2; have o12 := iQ40.2.1.rng; have o13 := iQ40.2.2.1; have o14 := iQ40.2.2.2; have o15 := (p41.2.2.1 pq40 iQ40.1.2.2); have o16 := p41.2.2.2; have o17 := c46; have o18 := p50.2.2.2; have o19 := c55; have o20 := lw195; have o21 := hcp; have o22 := (p1.2.2.1 pq hpq); have o23 := p1.2.2.2; have o24 := c6; have o25 := Q26.rng; have o26 := (show q_r cq 0 260 from ⟨by have q := hcp; omega, by have q := hcp; omega⟩); have o27 := r_12; have o28 := r_15; have o29 := (show q_r pq 0 260 from ⟨by have q := hcp; omega, by have q := hcp; omega⟩); have o30 := r_13; have o31 := r_16; have o32 := r_1; have o33 := p153.1; have o34 := p182.1; have o35 := p200.1; have o36 := p41.1; have o37 := p50.1; have o38 := p93.1; have o39 := r_18; have o40 := r_14; have o41 := r_17; have l42 := tl_0; have l43 := tl_33; have l44 := tl_40; have l45 := tl_41; unfold q_r at o26 o27 o28 o29 o30 o31 o32 o33 o34 o35 o36 o37 o38 o39 o40 o41; omega)) my_X12_jumps mv_X12_jumps w950 dX12_readsCondition_215 tA0 (by decide) rfl rfl (Nat.le_of_ble_eq_true rfl) (by decide) (fun s215 p215 => ?_)
                      have w215 := w195.trans p215.1 rfl
                      replace hF := fx_S hF p215.2.1
                      obtain ⟨c3_215, w3_215, p3_215, ⟨fc215, fw215, fp215⟩, Q215, lw215, lp215⟩ := p215.2.2
                      replace hF := fx_I hF fc215 rfl
                      replace hF := fx_I hF fw215 rfl
                      replace hF := fx_I hF fp215 rfl
                      refine q_goto (pc := 218) 40 hG dX12_readsCondition_218 rfl ?_
                      refine q_lv [0] rfl ?_
                      have r_19 := (show q_r c3_215 0 260 from ⟨by have q := Q215.rng; omega, by have q := Q215.rng; omega⟩)
                      have r_20 := (show q_r p3_215 0 260 from ⟨by have q := Q215.rng; omega, by have q := Q215.rng; omega⟩)
                      have r_21 := (show q_r w3_215 0 260 from ⟨by have q := Q215.rng; omega, by have q := Q215.rng; omega⟩)
                      exact ih40 s215 c3_215 w3_215 p3_215 w215 ⟨⟨fc215, fw215, fp215⟩, Q215, ⟨(by have o0 := Q215.rng; have o1 := lw215; have o2 := lp215; have o3 := iQ92.2.1.rng; have o4 := iQ92.2.2.1; have o5 := iQ92.2.2.2; have o6 := (p93.2.2.1 pq92 iQ92.1.2.2); have o7 := p93.2.2.2; have o8 := c98; have o9 := p153.2.2.2; have o10 := iP180; have o11 := p182.2.2.2; have o12 := Q195.rng; have o13 := (p200.2.2.1 pq92 (p195.1.same tA0 rfl iQ92.1.2.2)); have o14 := p200.2.2.2; have o15 := iQ40.2.1.rng; have o16 := iQ40.2.2.1; have o17 := iQ40.2.2.2; have o18 := (p41.2.2.1 pq40 iQ40.1.2.2); have o19 := p41.2.2.2; have o20 := c46; have o21 := p50.2.2.2; have o22 := c55; have o23 := lw195; have o24 := hcp; have o25 := (p1.2.2.1 pq hpq); have o26 := p1.2.2.2; have o27 := c6; have o28 := Q26.rng; have o29 := r_19; have o30 := (show q_r cq 0 260 from ⟨by have q := hcp; omega, by have q := hcp; omega⟩); have o31 := r_12; have o32 := r_15; have o33 := r_20; have o34 := (show q_r pq 0 260 from ⟨by have q := hcp; omega, by have q := hcp; omega⟩); have o35 := r_13; have o36 := r_16; have o37 := r_1; have o38 := p153.1; have o39 := p182.1; have o40 := p200.1; have o41 := p41.1; have o42 := p50.1; have o43 := p93.1; have o44 := r_18; have o45 := r_21; have o46 := r_14; have o47 := r_17; have l48 := tl_0; have l49 := tl_33; have l50 := tl_40; have l51 := tl_41; unfold q_r at o29 o30 o31 o32 o33 o34 o35 o36 o37 o38 o39 o40 o41 o42 o43 o44 o45 o46 o47; omega), (by have o0 := hcp; have o1 := (p1.2.2.1 pq hpq); have o2 := p1.2.2.2; have o3 := c6; have o4 := Q26.rng; have o5 := iQ40.2.2.2; have o6 := (p41.2.2.1 pq40 iQ40.1.2.2); have o7 := p41.2.2.2; have o8 := c46; have o9 := p50.2.2.2; have o10 := c55; have o11 := iQ92.2.2.2; have o12 := (p93.2.2.1 pq92 iQ92.1.2.2); have o13 := p93.2.2.2; have o14 := c98; have o15 := p153.2.2.2; have o16 := iP180; have o17 := p182.2.2.2; have o18 := Q195.rng; have o19 := (p200.2.2.1 pq92 (p195.1.same tA0 rfl iQ92.1.2.2)); have o20 := p200.2.2.2; have o21 := Q215.rng; have o22 := lw215; have o23 := lp215; have o24 := iQ40.2.1.rng; have o25 := iQ40.2.2.1; have o26 := iQ92.2.1.rng; have o27 := iQ92.2.2.1; have o28 := lw195; have o29 := r_19; have o30 := (show q_r cq 0 260 from ⟨by have q := hcp; omega, by have q := hcp; omega⟩); have o31 := r_12; have o32 := r_15; have o33 := r_20; have o34 := (show q_r pq 0 260 from ⟨by have q := hcp; omega, by have q := hcp; omega⟩); have o35 := r_13; have o36 := r_16; have o37 := r_1; have o38 := p153.1; have o39 := p182.1; have o40 := p200.1; have o41 := p41.1; have o42 := p50.1; have o43 := p93.1; have o44 := r_18; have o45 := r_21; have o46 := r_14; have o47 := r_17; have l48 := tl_0; have l49 := tl_33; have l50 := tl_40; have l51 := tl_41; unfold q_r at o29 o30 o31 o32 o33 o34 o35 o36 o37 o38 o39 o40 o41 o42 o43 o44 o45 o46 o47; omega)⟩⟩ hF (by have o0 := iQ40.2.1.rng; have o1 := iQ40.2.2.1; have o2 := iQ40.2.2.2; have o3 := (p41.2.2.1 pq40 iQ40.1.2.2); have o4 := p41.2.2.2; have o5 := c46; have o6 := p50.2.2.2; have o7 := c55; have o8 := iQ92.2.2.2; have o9 := (p93.2.2.1 pq92 iQ92.1.2.2); have o10 := p93.2.2.2; have o11 := c98; have o12 := p153.2.2.2; have o13 := iP180; have o14 := p182.2.2.2; have o15 := Q195.rng; have o16 := (p200.2.2.1 pq92 (p195.1.same tA0 rfl iQ92.1.2.2)); have o17 := p200.2.2.2; have o18 := Q215.rng; have o19 := lw215; have o20 := lp215; have o21 := hcp; have o22 := (p1.2.2.1 pq hpq); have o23 := p1.2.2.2; have o24 := c6; have o25 := Q26.rng; have o26 := iQ92.2.1.rng; have o27 := iQ92.2.2.1; have o28 := lw195; have o29 := r_19; have o30 := (show q_r cq 0 260 from ⟨by have q := hcp; omega, by have q := hcp; omega⟩); have o31 := r_12; have o32 := r_15; have o33 := r_20; have o34 := (show q_r pq 0 260 from ⟨by have q := hcp; omega, by have q := hcp; omega⟩); have o35 := r_13; have o36 := r_16; have o37 := r_1; have o38 := p153.1; have o39 := p182.1; have o40 := p200.1; have o41 := p41.1; have o42 := p50.1; have o43 := p93.1; have o44 := r_18; have o45 := r_21; have o46 := r_14; have o47 := r_17; have l48 := tl_0; have l49 := tl_33; have l50 := tl_40; have l51 := tl_41; have o52 := hm40; unfold q_r at o29 o30 o31 o32 o33 o34 o35 o36 o37 o38 o39 o40 o41 o42 o43 o44 o45 o46 o47; omega)
                    refine q_icmp_ne (pc := 205) hG 213 dX12_readsCondition_205 rfl ?_ ?_
                    · intro c205
                      replace hF := fx_eq2 hF rfl tl_38 c205
                      refine q_bipush (pc := 213) hG dX12_readsCondition_213 kb_12 ?_
                      refine q_lv [0] rfl ?_
                      exact J215 12 (q_r.mono rl_12 (by decide)) (by rw [tl_12]; exact hF)
                    intro c205
                    replace hF := fx_eq1 hF rfl tl_38 c205
                    refine q_bipush (pc := 208) hG dX12_readsCondition_208 kb_11 ?_
                    refine q_goto (pc := 210) 215 hG dX12_readsCondition_210 rfl ?_
                    refine q_lv [0] rfl ?_
                    exact J215 11 (q_r.mono rl_11 (by decide)) (by rw [tl_11]; exact hF)
                  refine q_icmp_ne (pc := 187) hG 194 dX12_readsCondition_187 rfl ?_ ?_
                  · intro c187
                    replace hF := fx_eq2 hF rfl tl_124 c187
                    refine q_iconst (pc := 194) hG dX12_readsCondition_194 ki_0 ?_
                    refine q_lv [0] rfl ?_
                    exact J195 0 (q_r.mono rl_0 (by decide)) (by rw [tl_0]; exact hF)
                  intro c187
                  replace hF := fx_eq1 hF rfl tl_124 c187
                  refine q_iconst (pc := 190) hG dX12_readsCondition_190 ki_1 ?_
                  refine q_goto (pc := 191) 195 hG dX12_readsCondition_191 rfl ?_
                  refine q_lv [0] rfl ?_
                  exact J195 1 (q_r.mono rl_1 (by decide)) (by rw [tl_1]; exact hF)
                refine q_icmp_eq (pc := 158) hG 180 dX12_readsCondition_158 rfl ?_ ?_
                · intro c158
                  replace hF := fx_eq1 hF rfl tl_38 c158
                  refine q_lv [0] rfl ?_
                  have r_22 := (show q_r cq92 0 260 from ⟨by have q := iQ92.2.1.rng; omega, by have q := iQ92.2.1.rng; omega⟩)
                  have r_23 := (show q_r pq92 0 260 from ⟨by have q := iQ92.2.1.rng; omega, by have q := iQ92.2.1.rng; omega⟩)
                  have r_24 := q_req rl_38 c158
                  have r_25 := (show q_r wq92 0 260 from ⟨by have q := iQ92.2.1.rng; omega, by have q := iQ92.2.1.rng; omega⟩)
                  exact J180 (by have o0 := iQ92.2.1.rng; have o1 := iQ92.2.2.1; have o2 := iQ92.2.2.2; have o3 := (p93.2.2.1 pq92 iQ92.1.2.2); have o4 := p93.2.2.2; have o5 := c98; have o6 := p153.2.2.2; have o7 := c158; have o8 := iQ40.2.1.rng; have o9 := iQ40.2.2.1; have o10 := iQ40.2.2.2; have o11 := (p41.2.2.1 pq40 iQ40.1.2.2); have o12 := p41.2.2.2; have o13 := c46; have o14 := p50.2.2.2; have o15 := c55; have o16 := hcp; have o17 := (p1.2.2.1 pq hpq); have o18 := p1.2.2.2; have o19 := c6; have o20 := Q26.rng; have o21 := (show q_r cq 0 260 from ⟨by have q := hcp; omega, by have q := hcp; omega⟩); have o22 := r_12; have o23 := r_22; have o24 := (show q_r pq 0 260 from ⟨by have q := hcp; omega, by have q := hcp; omega⟩); have o25 := r_13; have o26 := r_23; have o27 := r_1; have o28 := r_24; have o29 := p41.1; have o30 := p50.1; have o31 := p93.1; have o32 := r_14; have o33 := r_25; have l34 := tl_0; have l35 := tl_33; have l36 := tl_38; have l37 := tl_40; have l38 := tl_41; unfold q_r at o21 o22 o23 o24 o25 o26 o27 o28 o29 o30 o31 o32 o33; omega) hF
                intro c158
                replace hF := fx_eq2 hF rfl tl_38 c158
                refine q_aload_n (pc := 161) hG dX12_readsCondition_161 0 rfl ?_
                refine q_pV (pc := 162) [] [] hG (c_X12_here τ σ92 a0 hS92.1 tA0) my_X12_here mv_X12_here w879 dX12_readsCondition_162 tA0 (by decide) rfl rfl (Nat.le_of_ble_eq_true rfl) (by decide) (fun v162 p162 => ?_)
                replace hF := fx_E hF p162.2.1
                refine q_bipush (pc := 165) hG dX12_readsCondition_165 kb_124 ?_
                refine q_icmp_eq (pc := 167) hG 180 dX12_readsCondition_167 rfl ?_ ?_
                · intro c167
                  replace hF := fx_eq1 hF rfl tl_124 c167
                  refine q_lv [0] rfl ?_
                  have r_26 := (show q_r cq92 0 260 from ⟨by have q := iQ92.2.1.rng; omega, by have q := iQ92.2.1.rng; omega⟩)
                  have r_27 := (show q_r pq92 0 260 from ⟨by have q := iQ92.2.1.rng; omega, by have q := iQ92.2.1.rng; omega⟩)
                  have r_28 := q_req rl_124 c167
                  have r_29 := (show q_r wq92 0 260 from ⟨by have q := iQ92.2.1.rng; omega, by have q := iQ92.2.1.rng; omega⟩)
                  exact J180 (by have o0 := iQ92.2.1.rng; have o1 := iQ92.2.2.1; have o2 := iQ92.2.2.2; have o3 := (p93.2.2.1 pq92 iQ92.1.2.2); have o4 := p93.2.2.2; have o5 := c98; have o6 := p153.2.2.2; have o7 := c158; have o8 := p162.2.2.2; have o9 := c167; have o10 := iQ40.2.1.rng; have o11 := iQ40.2.2.1; have o12 := iQ40.2.2.2; have o13 := (p41.2.2.1 pq40 iQ40.1.2.2); have o14 := p41.2.2.2; have o15 := c46; have o16 := p50.2.2.2; have o17 := c55; have o18 := hcp; have o19 := (p1.2.2.1 pq hpq); have o20 := p1.2.2.2; have o21 := c6; have o22 := Q26.rng; have o23 := (show q_r cq 0 260 from ⟨by have q := hcp; omega, by have q := hcp; omega⟩); have o24 := r_12; have o25 := r_26; have o26 := (show q_r pq 0 260 from ⟨by have q := hcp; omega, by have q := hcp; omega⟩); have o27 := r_13; have o28 := r_27; have o29 := r_1; have o30 := p153.1; have o31 := r_28; have o32 := p41.1; have o33 := p50.1; have o34 := p93.1; have o35 := r_14; have o36 := r_29; have l37 := tl_0; have l38 := tl_33; have l39 := tl_38; have l40 := tl_40; have l41 := tl_41; have l42 := tl_124; unfold q_r at o23 o24 o25 o26 o27 o28 o29 o30 o31 o32 o33 o34 o35 o36; omega) hF
                intro c167
                replace hF := fx_eq2 hF rfl tl_124 c167
                refine q_aload_n (pc := 170) hG dX12_readsCondition_170 0 rfl ?_
                refine q_iconst (pc := 171) hG dX12_readsCondition_171 ki_1 ?_
                refine q_aload_n (pc := 172) hG dX12_readsCondition_172 0 rfl ?_
                refine q_getV (pc := 173) (v := .int pq92) hG fl_X12_126 dX12_readsCondition_173 tA0 iQ92.1.2.2 ?_
                refine q_cVi (pc := 176) [.int 1, .int pq92] [] hG (c_X12_wrongAt τ σ92 a0 1 pq92 hS92.1 tA0) my_X12_wrongAt mv_X12_wrongAt w888 dX12_readsCondition_176 tA0 (by decide) rfl rfl (Nat.le_of_ble_eq_true rfl) (by decide) (fun v176 s176 p176 => ?_)
                have w176 := hS92.trans p176.1 rfl
                have fq176 := p176.2.2
                rewrite [tl_1] at fq176
                replace hF := fx_C hF fq176
                exact q_zrt hG hE dX12_readsCondition_179 (q_r.mono p176.2.1 (by decide)) ⟨w176, (q_r.mono p176.2.1 (by decide)), (fx_end hF hF0), (fun q => absurd q (by have o0 := p176.2.1; unfold q_r at o0; omega))⟩
              intro c98
              replace hF := fx_eq1 hF rfl tl_41 c98
              refine q_aload_n (pc := 101) hG dX12_readsCondition_101 0 rfl ?_
              refine q_iconst (pc := 102) hG dX12_readsCondition_102 ki_1 ?_
              have r_30 := (show q_r cq92 0 260 from ⟨by have q := iQ92.2.1.rng; omega, by have q := iQ92.2.1.rng; omega⟩)
              have r_31 := (show q_r pq92 0 260 from ⟨by have q := iQ92.2.1.rng; omega, by have q := iQ92.2.1.rng; omega⟩)
              have r_32 := q_req rl_41 c98
              have r_33 := (show q_r wq92 0 260 from ⟨by have q := iQ92.2.1.rng; omega, by have q := iQ92.2.1.rng; omega⟩)
              refine q_cVv (pc := 103) [.int 1] [] hG (c_X12_lands τ σ92 a0 1 hS92.1 tA0 (q_r.mono rl_1 (by decide)) bs bw (hS92.same tA0 rfl hbs) (hS92.same tA0 rfl hbw) Tbs Tbw cq92 wq92 pq92 iQ92.1.1 iQ92.1.2.1 iQ92.1.2.2 S0 F (0) iQ92.2.1 (by have o0 := iQ92.2.1.rng; have o1 := iQ92.2.2.1; have o2 := iQ92.2.2.2; have o3 := (p93.2.2.1 pq92 iQ92.1.2.2); have o4 := p93.2.2.2; have o5 := c98; have o6 := iQ40.2.1.rng; have o7 := iQ40.2.2.1; have o8 := iQ40.2.2.2; have o9 := (p41.2.2.1 pq40 iQ40.1.2.2); have o10 := p41.2.2.2; have o11 := c46; have o12 := p50.2.2.2; have o13 := c55; have o14 := hcp; have o15 := (p1.2.2.1 pq hpq); have o16 := p1.2.2.2; have o17 := c6; have o18 := Q26.rng; have o19 := (show q_r cq 0 260 from ⟨by have q := hcp; omega, by have q := hcp; omega⟩); have o20 := r_12; have o21 := r_30; have o22 := (show q_r pq 0 260 from ⟨by have q := hcp; omega, by have q := hcp; omega⟩); have o23 := r_13; have o24 := r_31; have o25 := r_1; have o26 := p41.1; have o27 := p50.1; have o28 := r_32; have o29 := r_14; have o30 := r_33; have l31 := tl_0; have l32 := tl_33; have l33 := tl_40; have l34 := tl_41; unfold q_r at o19 o20 o21 o22 o23 o24 o25 o26 o27 o28 o29 o30; omega)) my_X12_lands mv_X12_lands w947 dX12_readsCondition_103 tA0 (by decide) rfl rfl (Nat.le_of_ble_eq_true rfl) (by decide) (fun s103 p103 => ?_)
              have w103 := hS92.trans p103.1 rfl
              have fq103 := p103.2.1
              rewrite [tl_1] at fq103
              replace hF := fx_S hF fq103
              obtain ⟨w2_103, fw103, qq103, lw103, lt103⟩ := p103.2.2
              have Q103 : q_cn (s103 bs) (s103 bw) S0 F cq92.toInt w2_103.toInt 0 pq92.toInt 1 := by
                rw [((funext fun j => p103.1.2.arr Tbw (by decide) rfl) : s103 bw = σ92 bw)]
                exact qq103
              replace hF := fx_I hF fw103 rfl
              refine q_aload_n (pc := 106) hG dX12_readsCondition_106 0 rfl ?_
              refine q_aload_n (pc := 107) hG dX12_readsCondition_107 0 rfl ?_
              refine q_getV (pc := 108) (v := .int w2_103) hG fl_X12_157 dX12_readsCondition_108 tA0 fw103 ?_
              refine q_iconst (pc := 111) hG dX12_readsCondition_111 ki_1 ?_
              refine q_isub (pc := 112) hG dX12_readsCondition_112 (fun v112 e112 => ?_)
              have r_34 := (show q_r w2_103 0 260 from ⟨by have q := Q103.rng; omega, by have q := Q103.rng; omega⟩)
              replace hF := fx_sub hF rfl tl_1 (q_subN (lo := (-1)) (hi := 259) e112 r_34 rl_1 (by decide)).1
              have r_35 := (q_subN (lo := (-1)) (hi := 259) e112 r_34 rl_1 (by decide)).2
              refine q_putI (pc := 113) hG fl_X12_157 dX12_readsCondition_113 w103 tA0 ff_10_11 (show q_r v112 0 260 from ⟨(by have o0 := (q_subN (lo := (-1)) (hi := 259) e112 r_34 rl_1 (by decide)).1; have o1 := lw103; have o2 := Q103.rng; have o3 := iQ92.2.1.rng; have o4 := iQ92.2.2.1; have o5 := iQ92.2.2.2; have o6 := (p93.2.2.1 pq92 iQ92.1.2.2); have o7 := p93.2.2.2; have o8 := c98; have o9 := iQ40.2.1.rng; have o10 := iQ40.2.2.1; have o11 := iQ40.2.2.2; have o12 := (p41.2.2.1 pq40 iQ40.1.2.2); have o13 := p41.2.2.2; have o14 := c46; have o15 := p50.2.2.2; have o16 := c55; have o17 := hcp; have o18 := (p1.2.2.1 pq hpq); have o19 := p1.2.2.2; have o20 := c6; have o21 := Q26.rng; have o22 := (show q_r cq 0 260 from ⟨by have q := hcp; omega, by have q := hcp; omega⟩); have o23 := r_12; have o24 := r_30; have o25 := (show q_r pq 0 260 from ⟨by have q := hcp; omega, by have q := hcp; omega⟩); have o26 := r_13; have o27 := r_31; have o28 := r_1; have o29 := r_35; have o30 := p41.1; have o31 := p50.1; have o32 := r_32; have o33 := r_34; have o34 := r_14; have o35 := r_33; have l36 := tl_0; have l37 := tl_1; have l38 := tl_33; have l39 := tl_40; have l40 := tl_41; unfold q_r at o22 o23 o24 o25 o26 o27 o28 o29 o30 o31 o32 o33 o34 o35; omega), (by have o0 := (q_subN (lo := (-1)) (hi := 259) e112 r_34 rl_1 (by decide)).1; have o1 := lw103; have o2 := Q103.rng; have o3 := iQ92.2.1.rng; have o4 := iQ92.2.2.1; have o5 := iQ92.2.2.2; have o6 := (p93.2.2.1 pq92 iQ92.1.2.2); have o7 := p93.2.2.2; have o8 := c98; have o9 := iQ40.2.1.rng; have o10 := iQ40.2.2.1; have o11 := iQ40.2.2.2; have o12 := (p41.2.2.1 pq40 iQ40.1.2.2); have o13 := p41.2.2.2; have o14 := c46; have o15 := p50.2.2.2; have o16 := c55; have o17 := hcp; have o18 := (p1.2.2.1 pq hpq); have o19 := p1.2.2.2; have o20 := c6; have o21 := Q26.rng; have o22 := (show q_r cq 0 260 from ⟨by have q := hcp; omega, by have q := hcp; omega⟩); have o23 := r_12; have o24 := r_30; have o25 := (show q_r pq 0 260 from ⟨by have q := hcp; omega, by have q := hcp; omega⟩); have o26 := r_13; have o27 := r_31; have o28 := r_1; have o29 := r_35; have o30 := p41.1; have o31 := p50.1; have o32 := r_32; have o33 := r_34; have o34 := r_14; have o35 := r_33; have l36 := tl_0; have l37 := tl_1; have l38 := tl_33; have l39 := tl_40; have l40 := tl_41; unfold q_r at o22 o23 o24 o25 o26 o27 o28 o29 o30 o31 o32 o33 o34 o35; omega)⟩) (by decide) rfl (fun s113 u113 w113 => ?_)
              replace hF := fx_P hF u113 rfl rfl
              have m113 : s113 a0 11 = .int v112 := by rw [u113]; exact q_up_same
              refine q_aload_n (pc := 116) hG dX12_readsCondition_116 0 rfl ?_
              refine q_aload_n (pc := 117) hG dX12_readsCondition_117 0 rfl ?_
              refine q_getI (pc := 118) hG fl_X12_154 dX12_readsCondition_118 w113.1 tA0 ff_10_9 (fun v118 f118 g118 => ?_)
              replace hF := fx_I hF f118 rfl
              refine q_iconst (pc := 121) hG dX12_readsCondition_121 ki_1 ?_
              refine q_isub (pc := 122) hG dX12_readsCondition_122 (fun v122 e122 => ?_)
              replace hF := fx_B_sub hF rfl tl_1 e122
              refine q_putI (pc := 123) hG fl_X12_154 dX12_readsCondition_123 w113 tA0 ff_10_9 (q_r_any v122) (by decide) rfl (fun s123 u123 w123 => ?_)
              replace hF := fx_P hF u123 rfl rfl
              have m123 : s123 a0 9 = .int v122 := by rw [u123]; exact q_up_same
              refine q_aload_n (pc := 126) hG dX12_readsCondition_126 0 rfl ?_
              refine q_aload_n (pc := 127) hG dX12_readsCondition_127 0 rfl ?_
              refine q_getV (pc := 128) (v := .int pq92) hG fl_X12_126 dX12_readsCondition_128 tA0 (by rw [u123]; exact (q_up_else (Or.inr (by decide))).trans (by rw [u113]; exact (q_up_else (Or.inr (by decide))).trans (p103.1.same tA0 rfl iQ92.1.2.2))) ?_
              refine q_iconst (pc := 131) hG dX12_readsCondition_131 ki_1 ?_
              refine q_iadd (pc := 132) hG dX12_readsCondition_132 (fun v132 e132 => ?_)
              replace hF := fx_add hF rfl tl_1 (q_addN (lo := 1) (hi := 261) e132 r_31 rl_1 (by decide)).1
              have r_36 := (q_addN (lo := 1) (hi := 261) e132 r_31 rl_1 (by decide)).2
              refine q_putI (pc := 133) hG fl_X12_126 dX12_readsCondition_133 w123 tA0 ff_10_5 (show q_r v132 0 260 from ⟨(by have o0 := (q_addN (lo := 1) (hi := 261) e132 r_31 rl_1 (by decide)).1; have o1 := iQ92.2.1.rng; have o2 := iQ92.2.2.1; have o3 := iQ92.2.2.2; have o4 := (p93.2.2.1 pq92 iQ92.1.2.2); have o5 := p93.2.2.2; have o6 := c98; have o7 := Q103.rng; have o8 := (q_subN (lo := (-1)) (hi := 259) e112 r_34 rl_1 (by decide)).1; have o9 := iQ40.2.1.rng; have o10 := iQ40.2.2.1; have o11 := iQ40.2.2.2; have o12 := (p41.2.2.1 pq40 iQ40.1.2.2); have o13 := p41.2.2.2; have o14 := c46; have o15 := p50.2.2.2; have o16 := c55; have o17 := lw103; have o18 := hcp; have o19 := (p1.2.2.1 pq hpq); have o20 := p1.2.2.2; have o21 := c6; have o22 := Q26.rng; have o23 := (show q_r cq 0 260 from ⟨by have q := hcp; omega, by have q := hcp; omega⟩); have o24 := r_12; have o25 := r_30; have o26 := (show q_r pq 0 260 from ⟨by have q := hcp; omega, by have q := hcp; omega⟩); have o27 := r_13; have o28 := r_31; have o29 := r_1; have o30 := r_35; have o31 := r_36; have o32 := p41.1; have o33 := p50.1; have o34 := r_32; have o35 := r_34; have o36 := r_14; have o37 := r_33; have l38 := tl_0; have l39 := tl_1; have l40 := tl_33; have l41 := tl_40; have l42 := tl_41; unfold q_r at o23 o24 o25 o26 o27 o28 o29 o30 o31 o32 o33 o34 o35 o36 o37; omega), (by have o0 := (q_addN (lo := 1) (hi := 261) e132 r_31 rl_1 (by decide)).1; have o1 := iQ92.2.1.rng; have o2 := iQ92.2.2.1; have o3 := iQ92.2.2.2; have o4 := (p93.2.2.1 pq92 iQ92.1.2.2); have o5 := p93.2.2.2; have o6 := c98; have o7 := Q103.rng; have o8 := (q_subN (lo := (-1)) (hi := 259) e112 r_34 rl_1 (by decide)).1; have o9 := iQ40.2.1.rng; have o10 := iQ40.2.2.1; have o11 := iQ40.2.2.2; have o12 := (p41.2.2.1 pq40 iQ40.1.2.2); have o13 := p41.2.2.2; have o14 := c46; have o15 := p50.2.2.2; have o16 := c55; have o17 := lw103; have o18 := hcp; have o19 := (p1.2.2.1 pq hpq); have o20 := p1.2.2.2; have o21 := c6; have o22 := Q26.rng; have o23 := (show q_r cq 0 260 from ⟨by have q := hcp; omega, by have q := hcp; omega⟩); have o24 := r_12; have o25 := r_30; have o26 := (show q_r pq 0 260 from ⟨by have q := hcp; omega, by have q := hcp; omega⟩); have o27 := r_13; have o28 := r_31; have o29 := r_1; have o30 := r_35; have o31 := r_36; have o32 := p41.1; have o33 := p50.1; have o34 := r_32; have o35 := r_34; have o36 := r_14; have o37 := r_33; have l38 := tl_0; have l39 := tl_1; have l40 := tl_33; have l41 := tl_40; have l42 := tl_41; unfold q_r at o23 o24 o25 o26 o27 o28 o29 o30 o31 o32 o33 o34 o35 o36 o37; omega)⟩) (by decide) rfl (fun s133 u133 w133 => ?_)
              replace hF := fx_P hF u133 rfl rfl
              have m133 : s133 a0 5 = .int v132 := by rw [u133]; exact q_up_same
              have Q133 : q_cn (s133 bs) (s133 bw) S0 F cq92.toInt v112.toInt 0 v132.toInt 1 := by
                rw [((by rw [u133]; exact q_upK Tbs tA0 (by decide) : s133 bs = s123 bs).trans ((by rw [u123]; exact q_upK Tbs tA0 (by decide) : s123 bs = s113 bs).trans (by rw [u113]; exact q_upK Tbs tA0 (by decide) : s113 bs = s103 bs))), ((by rw [u133]; exact q_upK Tbw tA0 (by decide) : s133 bw = s123 bw).trans ((by rw [u123]; exact q_upK Tbw tA0 (by decide) : s123 bw = s113 bw).trans (by rw [u113]; exact q_upK Tbw tA0 (by decide) : s113 bw = s103 bw))), (show v112.toInt = w2_103.toInt - 1 from (by have o0 := lw103; have o1 := Q103.rng; have o2 := (q_subN (lo := (-1)) (hi := 259) e112 r_34 rl_1 (by decide)).1; have o3 := (q_addN (lo := 1) (hi := 261) e132 r_31 rl_1 (by decide)).1; have o4 := iQ92.2.1.rng; have o5 := iQ92.2.2.1; have o6 := iQ92.2.2.2; have o7 := (p93.2.2.1 pq92 iQ92.1.2.2); have o8 := p93.2.2.2; have o9 := c98; have o10 := iQ40.2.1.rng; have o11 := iQ40.2.2.1; have o12 := iQ40.2.2.2; have o13 := (p41.2.2.1 pq40 iQ40.1.2.2); have o14 := p41.2.2.2; have o15 := c46; have o16 := p50.2.2.2; have o17 := c55; have o18 := hcp; have o19 := (p1.2.2.1 pq hpq); have o20 := p1.2.2.2; have o21 := c6; have o22 := Q26.rng; have o23 := (show q_r cq 0 260 from ⟨by have q := hcp; omega, by have q := hcp; omega⟩); have o24 := r_12; have o25 := r_30; have o26 := (show q_r pq 0 260 from ⟨by have q := hcp; omega, by have q := hcp; omega⟩); have o27 := r_13; have o28 := r_31; have o29 := r_1; have o30 := r_35; have o31 := r_36; have o32 := p41.1; have o33 := p50.1; have o34 := r_32; have o35 := r_34; have o36 := r_14; have o37 := r_33; have l38 := tl_0; have l39 := tl_1; have l40 := tl_33; have l41 := tl_40; have l42 := tl_41; unfold q_r at o23 o24 o25 o26 o27 o28 o29 o30 o31 o32 o33 o34 o35 o36 o37; omega)), (show v132.toInt = pq92.toInt + 1 from (by have o0 := iQ92.2.1.rng; have o1 := iQ92.2.2.1; have o2 := iQ92.2.2.2; have o3 := (p93.2.2.1 pq92 iQ92.1.2.2); have o4 := p93.2.2.2; have o5 := c98; have o6 := Q103.rng; have o7 := (q_subN (lo := (-1)) (hi := 259) e112 r_34 rl_1 (by decide)).1; have o8 := (q_addN (lo := 1) (hi := 261) e132 r_31 rl_1 (by decide)).1; have o9 := iQ40.2.1.rng; have o10 := iQ40.2.2.1; have o11 := iQ40.2.2.2; have o12 := (p41.2.2.1 pq40 iQ40.1.2.2); have o13 := p41.2.2.2; have o14 := c46; have o15 := p50.2.2.2; have o16 := c55; have o17 := lw103; have o18 := hcp; have o19 := (p1.2.2.1 pq hpq); have o20 := p1.2.2.2; have o21 := c6; have o22 := Q26.rng; have o23 := (show q_r cq 0 260 from ⟨by have q := hcp; omega, by have q := hcp; omega⟩); have o24 := r_12; have o25 := r_30; have o26 := (show q_r pq 0 260 from ⟨by have q := hcp; omega, by have q := hcp; omega⟩); have o27 := r_13; have o28 := r_31; have o29 := r_1; have o30 := r_35; have o31 := r_36; have o32 := p41.1; have o33 := p50.1; have o34 := r_32; have o35 := r_34; have o36 := r_14; have o37 := r_33; have l38 := tl_0; have l39 := tl_1; have l40 := tl_33; have l41 := tl_40; have l42 := tl_41; unfold q_r at o23 o24 o25 o26 o27 o28 o29 o30 o31 o32 o33 o34 o35 o36 o37; omega))]
                exact Q103.pop (by have o0 := lw103; have o1 := Q103.rng; have o2 := (q_subN (lo := (-1)) (hi := 259) e112 r_34 rl_1 (by decide)).1; have o3 := (q_addN (lo := 1) (hi := 261) e132 r_31 rl_1 (by decide)).1; have o4 := iQ92.2.1.rng; have o5 := iQ92.2.2.1; have o6 := iQ92.2.2.2; have o7 := (p93.2.2.1 pq92 iQ92.1.2.2); have o8 := p93.2.2.2; have o9 := c98; have o10 := iQ40.2.1.rng; have o11 := iQ40.2.2.1; have o12 := iQ40.2.2.2; have o13 := (p41.2.2.1 pq40 iQ40.1.2.2); have o14 := p41.2.2.2; have o15 := c46; have o16 := p50.2.2.2; have o17 := c55; have o18 := hcp; have o19 := (p1.2.2.1 pq hpq); have o20 := p1.2.2.2; have o21 := c6; have o22 := Q26.rng; have o23 := (show q_r cq 0 260 from ⟨by have q := hcp; omega, by have q := hcp; omega⟩); have o24 := r_12; have o25 := r_30; have o26 := (show q_r pq 0 260 from ⟨by have q := hcp; omega, by have q := hcp; omega⟩); have o27 := r_13; have o28 := r_31; have o29 := r_1; have o30 := r_35; have o31 := r_36; have o32 := p41.1; have o33 := p50.1; have o34 := r_32; have o35 := r_34; have o36 := r_14; have o37 := r_33; have l38 := tl_0; have l39 := tl_1; have l40 := tl_33; have l41 := tl_40; have l42 := tl_41; unfold q_r at o23 o24 o25 o26 o27 o28 o29 o30 o31 o32 o33 o34 o35 o36 o37; omega) (by rw [((funext fun j => p103.1.2.arr Tbw (by decide) rfl) : s103 bw = σ92 bw), ← q_wt_at (by have o0 := lw103; have o1 := Q103.rng; have o2 := (q_subN (lo := (-1)) (hi := 259) e112 r_34 rl_1 (by decide)).1; have o3 := (q_addN (lo := 1) (hi := 261) e132 r_31 rl_1 (by decide)).1; have o4 := iQ92.2.1.rng; have o5 := iQ92.2.2.1; have o6 := iQ92.2.2.2; have o7 := (p93.2.2.1 pq92 iQ92.1.2.2); have o8 := p93.2.2.2; have o9 := c98; have o10 := iQ40.2.1.rng; have o11 := iQ40.2.2.1; have o12 := iQ40.2.2.2; have o13 := (p41.2.2.1 pq40 iQ40.1.2.2); have o14 := p41.2.2.2; have o15 := c46; have o16 := p50.2.2.2; have o17 := c55; have o18 := hcp; have o19 := (p1.2.2.1 pq hpq); have o20 := p1.2.2.2; have o21 := c6; have o22 := Q26.rng; have o23 := (show q_r cq 0 260 from ⟨by have q := hcp; omega, by have q := hcp; omega⟩); have o24 := r_12; have o25 := r_30; have o26 := (show q_r pq 0 260 from ⟨by have q := hcp; omega, by have q := hcp; omega⟩); have o27 := r_13; have o28 := r_31; have o29 := r_1; have o30 := r_35; have o31 := r_36; have o32 := p41.1; have o33 := p50.1; have o34 := r_32; have o35 := r_34; have o36 := r_14; have o37 := r_33; have l38 := tl_0; have l39 := tl_1; have l40 := tl_33; have l41 := tl_40; have l42 := tl_41; unfold q_r at o23 o24 o25 o26 o27 o28 o29 o30 o31 o32 o33 o34 o35 o36 o37; omega)]; exact lt103 rfl) (by have o0 := iQ92.2.1.rng; have o1 := iQ92.2.2.1; have o2 := iQ92.2.2.2; have o3 := (p93.2.2.1 pq92 iQ92.1.2.2); have o4 := p93.2.2.2; have o5 := c98; have o6 := Q103.rng; have o7 := (q_subN (lo := (-1)) (hi := 259) e112 r_34 rl_1 (by decide)).1; have o8 := (q_addN (lo := 1) (hi := 261) e132 r_31 rl_1 (by decide)).1; have o9 := iQ40.2.1.rng; have o10 := iQ40.2.2.1; have o11 := iQ40.2.2.2; have o12 := (p41.2.2.1 pq40 iQ40.1.2.2); have o13 := p41.2.2.2; have o14 := c46; have o15 := p50.2.2.2; have o16 := c55; have o17 := lw103; have o18 := hcp; have o19 := (p1.2.2.1 pq hpq); have o20 := p1.2.2.2; have o21 := c6; have o22 := Q26.rng; have o23 := (show q_r cq 0 260 from ⟨by have q := hcp; omega, by have q := hcp; omega⟩); have o24 := r_12; have o25 := r_30; have o26 := (show q_r pq 0 260 from ⟨by have q := hcp; omega, by have q := hcp; omega⟩); have o27 := r_13; have o28 := r_31; have o29 := r_1; have o30 := r_35; have o31 := r_36; have o32 := p41.1; have o33 := p50.1; have o34 := r_32; have o35 := r_34; have o36 := r_14; have o37 := r_33; have l38 := tl_0; have l39 := tl_1; have l40 := tl_33; have l41 := tl_40; have l42 := tl_41; unfold q_r at o23 o24 o25 o26 o27 o28 o29 o30 o31 o32 o33 o34 o35 o36 o37; omega)
              refine q_aload_n (pc := 136) hG dX12_readsCondition_136 0 rfl ?_
              refine q_getV (pc := 137) (v := .int v112) hG fl_X12_157 dX12_readsCondition_137 tA0 (by rw [u133]; exact (q_up_else (Or.inr (by decide))).trans (by rw [u123]; exact (q_up_else (Or.inr (by decide))).trans m113)) ?_
              refine q_if_ne (pc := 140) hG 145 dX12_readsCondition_140 rfl ?_ ?_
              · intro c140
                have r_37 := (show q_r v112 0 260 from ⟨by have q := Q133.rng; omega, by have q := Q133.rng; omega⟩)
                replace hF := fx_eq2 hF rfl rfl c140
                refine q_aload_n (pc := 145) hG dX12_readsCondition_145 0 rfl ?_
                have r_38 := q_neL (c := 1) r_37 c140 (by decide)
                have r_39 := (show q_r v132 0 260 from ⟨by have q := Q133.rng; omega, by have q := Q133.rng; omega⟩)
                refine q_cVv (pc := 146) [] [] hG (c_X12_endsPiece τ s133 a0 w133.1 tA0 bs bw (w133.same tA0 rfl hbs) (w133.same tA0 rfl hbw) Tbs Tbw cq92 v112 v132 (by rw [u133]; exact (q_up_else (Or.inr (by decide))).trans (by rw [u123]; exact (q_up_else (Or.inr (by decide))).trans (by rw [u113]; exact (q_up_else (Or.inr (by decide))).trans (p103.1.same tA0 rfl iQ92.1.1)))) (by rw [u133]; exact (q_up_else (Or.inr (by decide))).trans (by rw [u123]; exact (q_up_else (Or.inr (by decide))).trans m113)) m133 S0 F (0) Q133 (by have o0 := (q_subN (lo := (-1)) (hi := 259) e112 r_34 rl_1 (by decide)).1; have o1 := Q133.rng; have o2 := c140; have o3 := iQ92.2.1.rng; have o4 := iQ92.2.2.1; have o5 := iQ92.2.2.2; have o6 := (p93.2.2.1 pq92 iQ92.1.2.2); have o7 := p93.2.2.2; have o8 := c98; have o9 := lw103; have o10 := Q103.rng; have o11 := (q_addN (lo := 1) (hi := 261) e132 r_31 rl_1 (by decide)).1; have o12 := iQ40.2.1.rng; have o13 := iQ40.2.2.1; have o14 := iQ40.2.2.2; have o15 := (p41.2.2.1 pq40 iQ40.1.2.2); have o16 := p41.2.2.2; have o17 := c46; have o18 := p50.2.2.2; have o19 := c55; have o20 := hcp; have o21 := (p1.2.2.1 pq hpq); have o22 := p1.2.2.2; have o23 := c6; have o24 := Q26.rng; have o25 := (show q_r cq 0 260 from ⟨by have q := hcp; omega, by have q := hcp; omega⟩); have o26 := r_12; have o27 := r_30; have o28 := (show q_r pq 0 260 from ⟨by have q := hcp; omega, by have q := hcp; omega⟩); have o29 := r_13; have o30 := r_31; have o31 := r_1; have o32 := r_38; have o33 := r_39; have o34 := p41.1; have o35 := p50.1; have o36 := r_32; have o37 := r_34; have o38 := r_14; have o39 := r_33; have l40 := tl_0; have l41 := tl_1; have l42 := tl_33; have l43 := tl_40; have l44 := tl_41; unfold q_r at o25 o26 o27 o28 o29 o30 o31 o32 o33 o34 o35 o36 o37 o38 o39; omega)) my_X12_endsPiece mv_X12_endsPiece w944 dX12_readsCondition_146 tA0 (by decide) rfl rfl (Nat.le_of_ble_eq_true rfl) (by decide) (fun s146 p146 => ?_)
                have w146 := w133.trans p146.1 rfl
                replace hF := fx_S hF p146.2.1
                obtain ⟨c2_146, w2_146, fc146, fw146, qq146, lw146⟩ := p146.2.2
                have Q146 : q_cn (s146 bs) (s146 bw) S0 F c2_146.toInt w2_146.toInt 0 v132.toInt 1 := by
                  rw [((funext fun j => p146.1.2.arr Tbw (by decide) rfl) : s146 bw = s133 bw)]
                  exact qq146
                replace hF := fx_I hF fc146 rfl
                replace hF := fx_I hF fw146 rfl
                refine q_goto (pc := 149) 92 hG dX12_readsCondition_149 rfl ?_
                refine q_lv [0] rfl ?_
                have r_40 := (show q_r c2_146 0 260 from ⟨by have q := Q146.rng; omega, by have q := Q146.rng; omega⟩)
                have r_41 := (show q_r w2_146 0 260 from ⟨by have q := Q146.rng; omega, by have q := Q146.rng; omega⟩)
                exact ih92 s146 c2_146 w2_146 v132 w146 ⟨⟨fc146, fw146, (p146.1.same tA0 rfl m133)⟩, Q146, ⟨(by have o0 := lw146; have o1 := Q146.rng; have o2 := (q_addN (lo := 1) (hi := 261) e132 r_31 rl_1 (by decide)).1; have o3 := Q133.rng; have o4 := c140; have o5 := iQ92.2.1.rng; have o6 := iQ92.2.2.1; have o7 := iQ92.2.2.2; have o8 := (p93.2.2.1 pq92 iQ92.1.2.2); have o9 := p93.2.2.2; have o10 := c98; have o11 := Q103.rng; have o12 := (q_subN (lo := (-1)) (hi := 259) e112 r_34 rl_1 (by decide)).1; have o13 := iQ40.2.1.rng; have o14 := iQ40.2.2.1; have o15 := iQ40.2.2.2; have o16 := (p41.2.2.1 pq40 iQ40.1.2.2); have o17 := p41.2.2.2; have o18 := c46; have o19 := p50.2.2.2; have o20 := c55; have o21 := lw103; have o22 := hcp; have o23 := (p1.2.2.1 pq hpq); have o24 := p1.2.2.2; have o25 := c6; have o26 := Q26.rng; have o27 := r_40; have o28 := (show q_r cq 0 260 from ⟨by have q := hcp; omega, by have q := hcp; omega⟩); have o29 := r_12; have o30 := r_30; have o31 := (show q_r pq 0 260 from ⟨by have q := hcp; omega, by have q := hcp; omega⟩); have o32 := r_13; have o33 := r_31; have o34 := r_1; have o35 := r_38; have o36 := r_39; have o37 := p41.1; have o38 := p50.1; have o39 := r_32; have o40 := r_34; have o41 := r_41; have o42 := r_14; have o43 := r_33; have l44 := tl_0; have l45 := tl_1; have l46 := tl_33; have l47 := tl_40; have l48 := tl_41; unfold q_r at o27 o28 o29 o30 o31 o32 o33 o34 o35 o36 o37 o38 o39 o40 o41 o42 o43; omega), (by have o0 := iQ40.2.1.rng; have o1 := iQ40.2.2.1; have o2 := iQ40.2.2.2; have o3 := (p41.2.2.1 pq40 iQ40.1.2.2); have o4 := p41.2.2.2; have o5 := c46; have o6 := p50.2.2.2; have o7 := c55; have o8 := iQ92.2.2.2; have o9 := (p93.2.2.1 pq92 iQ92.1.2.2); have o10 := p93.2.2.2; have o11 := c98; have o12 := Q103.rng; have o13 := (q_subN (lo := (-1)) (hi := 259) e112 r_34 rl_1 (by decide)).1; have o14 := (q_addN (lo := 1) (hi := 261) e132 r_31 rl_1 (by decide)).1; have o15 := Q133.rng; have o16 := c140; have o17 := Q146.rng; have o18 := hcp; have o19 := (p1.2.2.1 pq hpq); have o20 := p1.2.2.2; have o21 := c6; have o22 := Q26.rng; have o23 := iQ92.2.1.rng; have o24 := iQ92.2.2.1; have o25 := lw103; have o26 := lw146; have o27 := r_40; have o28 := (show q_r cq 0 260 from ⟨by have q := hcp; omega, by have q := hcp; omega⟩); have o29 := r_12; have o30 := r_30; have o31 := (show q_r pq 0 260 from ⟨by have q := hcp; omega, by have q := hcp; omega⟩); have o32 := r_13; have o33 := r_31; have o34 := r_1; have o35 := r_38; have o36 := r_39; have o37 := p41.1; have o38 := p50.1; have o39 := r_32; have o40 := r_34; have o41 := r_41; have o42 := r_14; have o43 := r_33; have l44 := tl_0; have l45 := tl_1; have l46 := tl_33; have l47 := tl_40; have l48 := tl_41; unfold q_r at o27 o28 o29 o30 o31 o32 o33 o34 o35 o36 o37 o38 o39 o40 o41 o42 o43; omega)⟩⟩ hF (by have o0 := iQ92.2.1.rng; have o1 := iQ92.2.2.1; have o2 := iQ92.2.2.2; have o3 := (p93.2.2.1 pq92 iQ92.1.2.2); have o4 := p93.2.2.2; have o5 := c98; have o6 := Q103.rng; have o7 := (q_subN (lo := (-1)) (hi := 259) e112 r_34 rl_1 (by decide)).1; have o8 := (q_addN (lo := 1) (hi := 261) e132 r_31 rl_1 (by decide)).1; have o9 := Q133.rng; have o10 := c140; have o11 := Q146.rng; have o12 := iQ40.2.1.rng; have o13 := iQ40.2.2.1; have o14 := iQ40.2.2.2; have o15 := (p41.2.2.1 pq40 iQ40.1.2.2); have o16 := p41.2.2.2; have o17 := c46; have o18 := p50.2.2.2; have o19 := c55; have o20 := lw103; have o21 := lw146; have o22 := hcp; have o23 := (p1.2.2.1 pq hpq); have o24 := p1.2.2.2; have o25 := c6; have o26 := Q26.rng; have o27 := r_40; have o28 := (show q_r cq 0 260 from ⟨by have q := hcp; omega, by have q := hcp; omega⟩); have o29 := r_12; have o30 := r_30; have o31 := (show q_r pq 0 260 from ⟨by have q := hcp; omega, by have q := hcp; omega⟩); have o32 := r_13; have o33 := r_31; have o34 := r_1; have o35 := r_38; have o36 := r_39; have o37 := p41.1; have o38 := p50.1; have o39 := r_32; have o40 := r_34; have o41 := r_41; have o42 := r_14; have o43 := r_33; have l44 := tl_0; have l45 := tl_1; have l46 := tl_33; have l47 := tl_40; have l48 := tl_41; have o49 := hm92; unfold q_r at o27 o28 o29 o30 o31 o32 o33 o34 o35 o36 o37 o38 o39 o40 o41 o42 o43; omega)
              intro c140
              have r_42 := (show q_r v112 0 260 from ⟨by have q := Q133.rng; omega, by have q := Q133.rng; omega⟩)
              replace hF := fx_eq1 hF rfl rfl c140
              refine q_iconst (pc := 143) hG dX12_readsCondition_143 ki_1 ?_
              have qz : q_cn (s133 bs) (s133 bw) S0 F cq92.toInt v112.toInt 0 v132.toInt 1 := Q133
              have r_43 := q_zeq c140
              have r_44 := (show q_r v132 0 260 from ⟨by have q := Q133.rng; omega, by have q := Q133.rng; omega⟩)
              rw [show v112.toInt = 0 from (by have o0 := (q_subN (lo := (-1)) (hi := 259) e112 r_34 rl_1 (by decide)).1; have o1 := Q133.rng; have o2 := c140; have o3 := iQ92.2.1.rng; have o4 := iQ92.2.2.1; have o5 := iQ92.2.2.2; have o6 := (p93.2.2.1 pq92 iQ92.1.2.2); have o7 := p93.2.2.2; have o8 := c98; have o9 := lw103; have o10 := Q103.rng; have o11 := (q_addN (lo := 1) (hi := 261) e132 r_31 rl_1 (by decide)).1; have o12 := iQ40.2.1.rng; have o13 := iQ40.2.2.1; have o14 := iQ40.2.2.2; have o15 := (p41.2.2.1 pq40 iQ40.1.2.2); have o16 := p41.2.2.2; have o17 := c46; have o18 := p50.2.2.2; have o19 := c55; have o20 := hcp; have o21 := (p1.2.2.1 pq hpq); have o22 := p1.2.2.2; have o23 := c6; have o24 := Q26.rng; have o25 := (show q_r cq 0 260 from ⟨by have q := hcp; omega, by have q := hcp; omega⟩); have o26 := r_12; have o27 := r_30; have o28 := (show q_r pq 0 260 from ⟨by have q := hcp; omega, by have q := hcp; omega⟩); have o29 := r_13; have o30 := r_31; have o31 := r_1; have o32 := r_43; have o33 := r_44; have o34 := p41.1; have o35 := p50.1; have o36 := r_32; have o37 := r_34; have o38 := r_14; have o39 := r_33; have l40 := tl_0; have l41 := tl_1; have l42 := tl_33; have l43 := tl_40; have l44 := tl_41; unfold q_r at o25 o26 o27 o28 o29 o30 o31 o32 o33 o34 o35 o36 o37 o38 o39; omega), hFe, hS0e] at qz
              exact q_zrt hG hE dX12_readsCondition_144 (q_r.mono rl_1 (by decide)) ⟨w133, (q_r.mono rl_1 (by decide)), (by rw [tl_1]; exact fx_end hF hF0), (fun _ => q_x.mk ⟨cq92, v132, ⟨(by rw [u133]; exact (q_up_else (Or.inr (by decide))).trans (by rw [u123]; exact (q_up_else (Or.inr (by decide))).trans (by rw [u113]; exact (q_up_else (Or.inr (by decide))).trans (p103.1.same tA0 rfl iQ92.1.1)))), m133⟩, ⟨by have q := qz.2.1.1; have q2 := hcp; omega, (by have o0 := iQ92.2.1.rng; have o1 := iQ92.2.2.1; have o2 := iQ92.2.2.2; have o3 := (p93.2.2.1 pq92 iQ92.1.2.2); have o4 := p93.2.2.2; have o5 := c98; have o6 := Q103.rng; have o7 := (q_subN (lo := (-1)) (hi := 259) e112 r_34 rl_1 (by decide)).1; have o8 := (q_addN (lo := 1) (hi := 261) e132 r_31 rl_1 (by decide)).1; have o9 := Q133.rng; have o10 := c140; have o11 := iQ40.2.1.rng; have o12 := iQ40.2.2.1; have o13 := iQ40.2.2.2; have o14 := (p41.2.2.1 pq40 iQ40.1.2.2); have o15 := p41.2.2.2; have o16 := c46; have o17 := p50.2.2.2; have o18 := c55; have o19 := lw103; have o20 := hcp; have o21 := (p1.2.2.1 pq hpq); have o22 := p1.2.2.2; have o23 := c6; have o24 := Q26.rng; have o25 := (show q_r cq 0 260 from ⟨by have q := hcp; omega, by have q := hcp; omega⟩); have o26 := r_12; have o27 := r_30; have o28 := (show q_r pq 0 260 from ⟨by have q := hcp; omega, by have q := hcp; omega⟩); have o29 := r_13; have o30 := r_31; have o31 := r_1; have o32 := r_43; have o33 := r_44; have o34 := p41.1; have o35 := p50.1; have o36 := r_32; have o37 := r_34; have o38 := r_14; have o39 := r_33; have l40 := tl_0; have l41 := tl_1; have l42 := tl_33; have l43 := tl_40; have l44 := tl_41; unfold q_r at o25 o26 o27 o28 o29 o30 o31 o32 o33 o34 o35 o36 o37 o38 o39; omega), (by have o0 := hcp; have o1 := (p1.2.2.1 pq hpq); have o2 := p1.2.2.2; have o3 := c6; have o4 := Q26.rng; have o5 := iQ40.2.2.2; have o6 := (p41.2.2.1 pq40 iQ40.1.2.2); have o7 := p41.2.2.2; have o8 := c46; have o9 := p50.2.2.2; have o10 := c55; have o11 := iQ92.2.2.2; have o12 := (p93.2.2.1 pq92 iQ92.1.2.2); have o13 := p93.2.2.2; have o14 := c98; have o15 := Q103.rng; have o16 := (q_subN (lo := (-1)) (hi := 259) e112 r_34 rl_1 (by decide)).1; have o17 := (q_addN (lo := 1) (hi := 261) e132 r_31 rl_1 (by decide)).1; have o18 := Q133.rng; have o19 := c140; have o20 := iQ40.2.1.rng; have o21 := iQ40.2.2.1; have o22 := iQ92.2.1.rng; have o23 := iQ92.2.2.1; have o24 := lw103; have o25 := (show q_r cq 0 260 from ⟨by have q := hcp; omega, by have q := hcp; omega⟩); have o26 := r_12; have o27 := r_30; have o28 := (show q_r pq 0 260 from ⟨by have q := hcp; omega, by have q := hcp; omega⟩); have o29 := r_13; have o30 := r_31; have o31 := r_1; have o32 := r_43; have o33 := r_44; have o34 := p41.1; have o35 := p50.1; have o36 := r_32; have o37 := r_34; have o38 := r_14; have o39 := r_33; have l40 := tl_0; have l41 := tl_1; have l42 := tl_33; have l43 := tl_40; have l44 := tl_41; unfold q_r at o25 o26 o27 o28 o29 o30 o31 o32 o33 o34 o35 o36 o37 o38 o39; omega)⟩, qz.2.2.2.1, qz.1.seg qz.2.1.1⟩)⟩
          refine q_if_ne (pc := 87) hG 92 dX12_readsCondition_87 rfl ?_ ?_
          · intro c87
            have g_45 := p84.2.2.2 (q_one p84.2.1 c87)
            obtain ⟨c3_84, w3_84, p3_84, ⟨fc84, fw84, fp84⟩, Q84, lw84, lp84⟩ := g_45
            replace hF := fx_eq2 hF rfl rfl c87
            replace hF := fx_I hF fc84 rfl
            replace hF := fx_I hF fw84 rfl
            replace hF := fx_I hF fp84 rfl
            refine q_lv [0] rfl ?_
            have r_46 := (show q_r c3_84 0 260 from ⟨by have q := Q84.rng; omega, by have q := Q84.rng; omega⟩)
            have r_47 := (show q_r p3_84 0 260 from ⟨by have q := Q84.rng; omega, by have q := Q84.rng; omega⟩)
            have r_48 := (show q_r w3_84 0 260 from ⟨by have q := Q84.rng; omega, by have q := Q84.rng; omega⟩)
            exact J92 ((260 - p3_84.toInt).toNat + 1) s84 c3_84 w3_84 p3_84 w84 ⟨⟨fc84, fw84, fp84⟩, Q84, ⟨(by have o0 := Q84.rng; have o1 := lw84; have o2 := lp84; have o3 := iQ40.2.1.rng; have o4 := iQ40.2.2.1; have o5 := iQ40.2.2.2; have o6 := (p41.2.2.1 pq40 iQ40.1.2.2); have o7 := p41.2.2.2; have o8 := c46; have o9 := p50.2.2.2; have o10 := c55; have o11 := hcp; have o12 := (p1.2.2.1 pq hpq); have o13 := p1.2.2.2; have o14 := c6; have o15 := Q26.rng; have o16 := r_46; have o17 := (show q_r cq 0 260 from ⟨by have q := hcp; omega, by have q := hcp; omega⟩); have o18 := r_12; have o19 := r_47; have o20 := (show q_r pq 0 260 from ⟨by have q := hcp; omega, by have q := hcp; omega⟩); have o21 := r_13; have o22 := r_1; have o23 := p41.1; have o24 := p50.1; have o25 := r_48; have o26 := r_14; have l27 := tl_0; have l28 := tl_33; have l29 := tl_40; unfold q_r at o16 o17 o18 o19 o20 o21 o22 o23 o24 o25 o26; omega), (by have o0 := iQ40.2.1.rng; have o1 := iQ40.2.2.1; have o2 := iQ40.2.2.2; have o3 := (p41.2.2.1 pq40 iQ40.1.2.2); have o4 := p41.2.2.2; have o5 := c46; have o6 := p50.2.2.2; have o7 := c55; have o8 := Q84.rng; have o9 := lw84; have o10 := lp84; have o11 := hcp; have o12 := (p1.2.2.1 pq hpq); have o13 := p1.2.2.2; have o14 := c6; have o15 := Q26.rng; have o16 := r_46; have o17 := (show q_r cq 0 260 from ⟨by have q := hcp; omega, by have q := hcp; omega⟩); have o18 := r_12; have o19 := r_47; have o20 := (show q_r pq 0 260 from ⟨by have q := hcp; omega, by have q := hcp; omega⟩); have o21 := r_13; have o22 := r_1; have o23 := p41.1; have o24 := p50.1; have o25 := r_48; have o26 := r_14; have l27 := tl_0; have l28 := tl_33; have l29 := tl_40; unfold q_r at o16 o17 o18 o19 o20 o21 o22 o23 o24 o25 o26; omega)⟩⟩ hF (Nat.lt_succ_self _)
          intro c87
          replace hF := fx_eq1 hF rfl rfl c87
          refine q_iconst (pc := 90) hG dX12_readsCondition_90 ki_0 ?_
          exact q_zrt hG hE dX12_readsCondition_91 (q_r.mono rl_0 (by decide)) ⟨w84, (q_r.mono rl_0 (by decide)), (by rw [tl_0]; exact fx_end hF hF0), (fun q => absurd q (by have l0 := tl_0; omega))⟩
        intro c55
        replace hF := fx_eq1 hF rfl tl_40 c55
        refine q_lv [0] rfl ?_
        have r_49 := (show q_r cq40 0 260 from ⟨by have q := iQ40.2.1.rng; omega, by have q := iQ40.2.1.rng; omega⟩)
        have r_50 := (show q_r pq40 0 260 from ⟨by have q := iQ40.2.1.rng; omega, by have q := iQ40.2.1.rng; omega⟩)
        have r_51 := q_req rl_40 c55
        have r_52 := (show q_r wq40 0 260 from ⟨by have q := iQ40.2.1.rng; omega, by have q := iQ40.2.1.rng; omega⟩)
        exact J58 (by have o0 := iQ40.2.1.rng; have o1 := iQ40.2.2.1; have o2 := iQ40.2.2.2; have o3 := (p41.2.2.1 pq40 iQ40.1.2.2); have o4 := p41.2.2.2; have o5 := c46; have o6 := p50.2.2.2; have o7 := c55; have o8 := hcp; have o9 := (p1.2.2.1 pq hpq); have o10 := p1.2.2.2; have o11 := c6; have o12 := Q26.rng; have o13 := (show q_r cq 0 260 from ⟨by have q := hcp; omega, by have q := hcp; omega⟩); have o14 := r_49; have o15 := (show q_r pq 0 260 from ⟨by have q := hcp; omega, by have q := hcp; omega⟩); have o16 := r_50; have o17 := r_1; have o18 := p41.1; have o19 := r_51; have o20 := r_52; have l21 := tl_0; have l22 := tl_33; have l23 := tl_40; unfold q_r at o13 o14 o15 o16 o17 o18 o19 o20; omega) hF
    refine q_if_ne (pc := 35) hG 40 dX12_readsCondition_35 rfl ?_ ?_
    · intro c35
      have g_53 := p32.2.2.2 (q_one p32.2.1 c35)
      obtain ⟨y32, w1_32, p1_32, ey32, fy32, fw32, gw32, fp32, gp32⟩ := g_53
      have Q32 : q_cn (s32 bs) (s32 bw) S0 F cq.toInt w1_32.toInt 0 p1_32.toInt 0 := by
        rw [((funext fun j => p32.1.2.arr Tbs (by decide) rfl) : s32 bs = s26 bs), ey32, gw32, gp32]
        exact Q26.opn (o := (13 : Int32).toInt) (by have o0 := gw32; have l1 := tl_0; have l2 := tl_13; omega) (by have o0 := fy32; have l1 := tl_13; omega) (by have o0 := hcp; have o1 := (p1.2.2.1 pq hpq); have o2 := p1.2.2.2; have o3 := c6; have o4 := Q26.rng; have o5 := gp32; have o6 := (show q_r cq 0 260 from ⟨by have q := hcp; omega, by have q := hcp; omega⟩); have o7 := (show q_r pq 0 260 from ⟨by have q := hcp; omega, by have q := hcp; omega⟩); have o8 := r_1; have l9 := tl_0; have l10 := tl_40; unfold q_r at o6 o7 o8; omega)
      replace hF := fx_eq2 hF rfl rfl c35
      replace hF := fx_I hF fw32 rfl
      replace hF := fx_I hF fp32 rfl
      refine q_lv [0] rfl ?_
      have r_54 := (show q_r p1_32 0 260 from ⟨by have q := Q32.rng; omega, by have q := Q32.rng; omega⟩)
      have r_55 := (show q_r w1_32 0 260 from ⟨by have q := Q32.rng; omega, by have q := Q32.rng; omega⟩)
      exact J40 ((260 - p1_32.toInt).toNat + 1) s32 cq w1_32 p1_32 w32 ⟨⟨(p32.1.same tA0 rfl (by rw [u26]; exact (q_up_else (Or.inr (by decide))).trans (by rw [u21]; exact (q_up_else (Or.inr (by decide))).trans hcq))), fw32, fp32⟩, Q32, ⟨(by have o0 := gw32; have o1 := Q32.rng; have o2 := hcp; have o3 := (p1.2.2.1 pq hpq); have o4 := p1.2.2.2; have o5 := c6; have o6 := Q26.rng; have o7 := gp32; have o8 := (show q_r cq 0 260 from ⟨by have q := hcp; omega, by have q := hcp; omega⟩); have o9 := r_54; have o10 := (show q_r pq 0 260 from ⟨by have q := hcp; omega, by have q := hcp; omega⟩); have o11 := r_1; have o12 := r_55; have l13 := tl_0; have l14 := tl_40; unfold q_r at o8 o9 o10 o11 o12; omega), (by have o0 := hcp; have o1 := (p1.2.2.1 pq hpq); have o2 := p1.2.2.2; have o3 := c6; have o4 := Q26.rng; have o5 := gp32; have o6 := Q32.rng; have o7 := gw32; have o8 := (show q_r cq 0 260 from ⟨by have q := hcp; omega, by have q := hcp; omega⟩); have o9 := r_54; have o10 := (show q_r pq 0 260 from ⟨by have q := hcp; omega, by have q := hcp; omega⟩); have o11 := r_1; have o12 := r_55; have l13 := tl_0; have l14 := tl_40; unfold q_r at o8 o9 o10 o11 o12; omega)⟩⟩ hF (Nat.lt_succ_self _)
    intro c35
    replace hF := fx_eq1 hF rfl rfl c35
    refine q_iconst (pc := 38) hG dX12_readsCondition_38 ki_0 ?_
    exact q_zrt hG hE dX12_readsCondition_39 (q_r.mono rl_0 (by decide)) ⟨w32, (q_r.mono rl_0 (by decide)), (by rw [tl_0]; exact fx_end hF hF0), (fun q => absurd q (by have l0 := tl_0; omega))⟩
  intro c6
  replace hF := fx_eq2 hF rfl tl_40 c6
  refine q_aload_n (pc := 9) hG dX12_readsCondition_9 0 rfl ?_
  refine q_iconst (pc := 10) hG dX12_readsCondition_10 ki_1 ?_
  refine q_aload_n (pc := 11) hG dX12_readsCondition_11 0 rfl ?_
  refine q_getV (pc := 12) (v := .int pq) hG fl_X12_126 dX12_readsCondition_12 tA0 hpq ?_
  refine q_cVi (pc := 15) [.int 1, .int pq] [] hG (c_X12_wrongAt τ σ a0 1 pq hI tA0) my_X12_wrongAt mv_X12_wrongAt w888 dX12_readsCondition_15 tA0 (by decide) rfl rfl (Nat.le_of_ble_eq_true rfl) (by decide) (fun v15 s15 p15 => ?_)
  have w15 := hS0.trans p15.1 rfl
  have fq15 := p15.2.2
  rewrite [tl_1] at fq15
  replace hF := fx_C hF fq15
  exact q_zrt hG hE dX12_readsCondition_18 (q_r.mono p15.2.1 (by decide)) ⟨w15, (q_r.mono p15.2.1 (by decide)), (fx_end hF hF0), (fun q => absurd q (by have o0 := p15.2.1; unfold q_r at o0; omega))⟩
theorem dX12_readsClause_0 : decode cX12_readsClause 0 = .ok (.aload_n 0, 1) := by decide +kernel
theorem dX12_readsClause_1 : decode cX12_readsClause 1 = .ok (.invokevirtual 132, 3) := by decide +kernel
theorem dX12_readsClause_4 : decode cX12_readsClause 4 = .ok (.istore_n 1, 1) := by decide +kernel
theorem dX12_readsClause_5 : decode cX12_readsClause 5 = .ok (.iload_n 1, 1) := by decide +kernel
theorem dX12_readsClause_6 : decode cX12_readsClause 6 = .ok (.invokestatic 221, 3) := by decide +kernel
theorem dX12_readsClause_9 : decode cX12_readsClause 9 = .ok (.ifCond .ne 13, 3) := by decide +kernel
theorem dX12_readsClause_12 : decode cX12_readsClause 12 = .ok (.aload_n 0, 1) := by decide +kernel
theorem dX12_readsClause_13 : decode cX12_readsClause 13 = .ok (.iconst 1, 1) := by decide +kernel
theorem dX12_readsClause_14 : decode cX12_readsClause 14 = .ok (.aload_n 0, 1) := by decide +kernel
theorem dX12_readsClause_15 : decode cX12_readsClause 15 = .ok (.getfield 126, 3) := by decide +kernel
theorem dX12_readsClause_18 : decode cX12_readsClause 18 = .ok (.invokevirtual 139, 3) := by decide +kernel
theorem dX12_readsClause_21 : decode cX12_readsClause 21 = .ok (.ireturn, 1) := by decide +kernel
theorem dX12_readsClause_22 : decode cX12_readsClause 22 = .ok (.aload_n 0, 1) := by decide +kernel
theorem dX12_readsClause_23 : decode cX12_readsClause 23 = .ok (.getfield 224, 3) := by decide +kernel
theorem dX12_readsClause_26 : decode cX12_readsClause 26 = .ok (.bipush 16, 2) := by decide +kernel
theorem dX12_readsClause_28 : decode cX12_readsClause 28 = .ok (.if_icmp .ne 13, 3) := by decide +kernel
theorem dX12_readsClause_31 : decode cX12_readsClause 31 = .ok (.aload_n 0, 1) := by decide +kernel
theorem dX12_readsClause_32 : decode cX12_readsClause 32 = .ok (.iconst 4, 1) := by decide +kernel
theorem dX12_readsClause_33 : decode cX12_readsClause 33 = .ok (.aload_n 0, 1) := by decide +kernel
theorem dX12_readsClause_34 : decode cX12_readsClause 34 = .ok (.getfield 126, 3) := by decide +kernel
theorem dX12_readsClause_37 : decode cX12_readsClause 37 = .ok (.invokevirtual 139, 3) := by decide +kernel
theorem dX12_readsClause_40 : decode cX12_readsClause 40 = .ok (.ireturn, 1) := by decide +kernel
theorem dX12_readsClause_41 : decode cX12_readsClause 41 = .ok (.aload_n 0, 1) := by decide +kernel
theorem dX12_readsClause_42 : decode cX12_readsClause 42 = .ok (.getfield 29, 3) := by decide +kernel
theorem dX12_readsClause_45 : decode cX12_readsClause 45 = .ok (.aload_n 0, 1) := by decide +kernel
theorem dX12_readsClause_46 : decode cX12_readsClause 46 = .ok (.getfield 224, 3) := by decide +kernel
theorem dX12_readsClause_49 : decode cX12_readsClause 49 = .ok (.iload_n 1, 1) := by decide +kernel
theorem dX12_readsClause_50 : decode cX12_readsClause 50 = .ok (.iastore, 1) := by decide +kernel
theorem dX12_readsClause_51 : decode cX12_readsClause 51 = .ok (.aload_n 0, 1) := by decide +kernel
theorem dX12_readsClause_52 : decode cX12_readsClause 52 = .ok (.aload_n 0, 1) := by decide +kernel
theorem dX12_readsClause_53 : decode cX12_readsClause 53 = .ok (.getfield 126, 3) := by decide +kernel
theorem dX12_readsClause_56 : decode cX12_readsClause 56 = .ok (.iconst 1, 1) := by decide +kernel
theorem dX12_readsClause_57 : decode cX12_readsClause 57 = .ok (.iadd, 1) := by decide +kernel
theorem dX12_readsClause_58 : decode cX12_readsClause 58 = .ok (.putfield 126, 3) := by decide +kernel
theorem dX12_readsClause_61 : decode cX12_readsClause 61 = .ok (.aload_n 0, 1) := by decide +kernel
theorem dX12_readsClause_62 : decode cX12_readsClause 62 = .ok (.getfield 32, 3) := by decide +kernel
theorem dX12_readsClause_65 : decode cX12_readsClause 65 = .ok (.aload_n 0, 1) := by decide +kernel
theorem dX12_readsClause_66 : decode cX12_readsClause 66 = .ok (.getfield 224, 3) := by decide +kernel
theorem dX12_readsClause_69 : decode cX12_readsClause 69 = .ok (.aload_n 0, 1) := by decide +kernel
theorem dX12_readsClause_70 : decode cX12_readsClause 70 = .ok (.getfield 150, 3) := by decide +kernel
theorem dX12_readsClause_73 : decode cX12_readsClause 73 = .ok (.iastore, 1) := by decide +kernel
theorem dX12_readsClause_74 : decode cX12_readsClause 74 = .ok (.aload_n 0, 1) := by decide +kernel
theorem dX12_readsClause_75 : decode cX12_readsClause 75 = .ok (.iconst 0, 1) := by decide +kernel
theorem dX12_readsClause_76 : decode cX12_readsClause 76 = .ok (.putfield 154, 3) := by decide +kernel
theorem dX12_readsClause_79 : decode cX12_readsClause 79 = .ok (.aload_n 0, 1) := by decide +kernel
theorem dX12_readsClause_80 : decode cX12_readsClause 80 = .ok (.iconst 0, 1) := by decide +kernel
theorem dX12_readsClause_81 : decode cX12_readsClause 81 = .ok (.putfield 157, 3) := by decide +kernel
theorem dX12_readsClause_84 : decode cX12_readsClause 84 = .ok (.aload_n 0, 1) := by decide +kernel
theorem dX12_readsClause_85 : decode cX12_readsClause 85 = .ok (.invokevirtual 190, 3) := by decide +kernel
theorem dX12_readsClause_88 : decode cX12_readsClause 88 = .ok (.ifCond .ne 5, 3) := by decide +kernel
theorem dX12_readsClause_91 : decode cX12_readsClause 91 = .ok (.iconst 0, 1) := by decide +kernel
theorem dX12_readsClause_92 : decode cX12_readsClause 92 = .ok (.ireturn, 1) := by decide +kernel
theorem dX12_readsClause_93 : decode cX12_readsClause 93 = .ok (.aload_n 0, 1) := by decide +kernel
theorem dX12_readsClause_94 : decode cX12_readsClause 94 = .ok (.getfield 35, 3) := by decide +kernel
theorem dX12_readsClause_97 : decode cX12_readsClause 97 = .ok (.aload_n 0, 1) := by decide +kernel
theorem dX12_readsClause_98 : decode cX12_readsClause 98 = .ok (.getfield 224, 3) := by decide +kernel
theorem dX12_readsClause_101 : decode cX12_readsClause 101 = .ok (.aload_n 0, 1) := by decide +kernel
theorem dX12_readsClause_102 : decode cX12_readsClause 102 = .ok (.getfield 150, 3) := by decide +kernel
theorem dX12_readsClause_105 : decode cX12_readsClause 105 = .ok (.iastore, 1) := by decide +kernel
theorem dX12_readsClause_106 : decode cX12_readsClause 106 = .ok (.aload_n 0, 1) := by decide +kernel
theorem dX12_readsClause_107 : decode cX12_readsClause 107 = .ok (.invokevirtual 227, 3) := by decide +kernel
theorem dX12_readsClause_110 : decode cX12_readsClause 110 = .ok (.ifCond .ne 5, 3) := by decide +kernel
theorem dX12_readsClause_113 : decode cX12_readsClause 113 = .ok (.iconst 0, 1) := by decide +kernel
theorem dX12_readsClause_114 : decode cX12_readsClause 114 = .ok (.ireturn, 1) := by decide +kernel
theorem dX12_readsClause_115 : decode cX12_readsClause 115 = .ok (.aload_n 0, 1) := by decide +kernel
theorem dX12_readsClause_116 : decode cX12_readsClause 116 = .ok (.getfield 38, 3) := by decide +kernel
theorem dX12_readsClause_119 : decode cX12_readsClause 119 = .ok (.aload_n 0, 1) := by decide +kernel
theorem dX12_readsClause_120 : decode cX12_readsClause 120 = .ok (.getfield 224, 3) := by decide +kernel
theorem dX12_readsClause_123 : decode cX12_readsClause 123 = .ok (.aload_n 0, 1) := by decide +kernel
theorem dX12_readsClause_124 : decode cX12_readsClause 124 = .ok (.getfield 150, 3) := by decide +kernel
theorem dX12_readsClause_127 : decode cX12_readsClause 127 = .ok (.iastore, 1) := by decide +kernel
theorem dX12_readsClause_128 : decode cX12_readsClause 128 = .ok (.aload_n 0, 1) := by decide +kernel
theorem dX12_readsClause_129 : decode cX12_readsClause 129 = .ok (.aload_n 0, 1) := by decide +kernel
theorem dX12_readsClause_130 : decode cX12_readsClause 130 = .ok (.getfield 224, 3) := by decide +kernel
theorem dX12_readsClause_133 : decode cX12_readsClause 133 = .ok (.iconst 1, 1) := by decide +kernel
theorem dX12_readsClause_134 : decode cX12_readsClause 134 = .ok (.iadd, 1) := by decide +kernel
theorem dX12_readsClause_135 : decode cX12_readsClause 135 = .ok (.putfield 224, 3) := by decide +kernel
theorem dX12_readsClause_138 : decode cX12_readsClause 138 = .ok (.iconst 1, 1) := by decide +kernel
theorem dX12_readsClause_139 : decode cX12_readsClause 139 = .ok (.ireturn, 1) := by decide +kernel
def md_X12_readsClause : List (Nat × Nat) := [(10, 5), (10, 7), (10, 8), (10, 9), (10, 10), (10, 11), (10, 12), (150, 0), (151, 0), (152, 0), (153, 0), (154, 0), (155, 0)]
set_option maxRecDepth 100000 in
set_option maxHeartbeats 4000000 in
theorem c_X12_readsClause {l : Launch} {D : q_D} (τ : q_T) (σ : q_V) (a0 : Nat) (hI : q_I τ σ) (tA0 : τ a0 = some (10, 1)) (bs bw : Nat) (hbs : σ a0 15 = .ref bs) (hbw : σ a0 16 = .ref bw) (Tbs : τ bs = some (150, 260)) (Tbw : τ bw = some (151, 260)) (cq wq pq : Int32) (hcq : σ a0 10 = .int cq) (hwq : σ a0 11 = .int wq) (hpq : σ a0 5 = .int pq) (hcp : (0 ≤ cq.toInt ∧ cq.toInt ≤ pq.toInt) ∧ pq.toInt ≤ 260) (bf bh bt : Nat) (hbf : σ a0 18 = .ref bf) (hbh : σ a0 19 = .ref bh) (hbt : σ a0 20 = .ref bt) (Tbf : τ bf = some (153, 16)) (Tbh : τ bh = some (154, 16)) (Tbt : τ bt = some (155, 16)) (mq : Int32) (hmq : σ a0 12 = .int mq) (rmq : q_r mq 0 16) (hsd : q_sd (σ bs) (σ bf) (σ bh) (σ bt) mq.toInt cq.toInt) : q_Ci l D yX12_readsClause cX12_readsClause 2 (some .boolean) 7 145 τ σ [.ref a0] (fun r σ1 => q_S md_X12_readsClause τ σ σ1 ∧ (q_r r 0 1) ∧ ((r.toInt, fx_N σ1) = f_X12_readsClause (fx_N σ) a0) ∧ (r.toInt = 1 → q_x (∃ c1 p1 m1 : Int32, (σ1 a0 10 = .int c1 ∧ σ1 a0 5 = .int p1 ∧ σ1 a0 12 = .int m1) ∧ (((0 ≤ c1.toInt ∧ c1.toInt ≤ p1.toInt) ∧ p1.toInt ≤ 260) ∧ pq.toInt < p1.toInt ∧ m1.toInt = mq.toInt + 1) ∧ q_r m1 0 16 ∧ q_sd (σ1 bs) (σ1 bf) (σ1 bh) (σ1 bt) m1.toInt c1.toInt))) := by
  refine q_meti rfl (Nat.le_of_ble_eq_true rfl) (fun X hG hE => ?_)
  show q_O X 0 0 τ σ 0 [(0, .ref a0)] []
  have hS0 : q_S md_X12_readsClause τ σ σ := q_S.rf hI
  obtain ⟨Fv, hF⟩ : ∃ z, fx_eq z (f_X12_readsClause (fx_N σ) a0) := ⟨_, fx_rf⟩
  have hF0 := hF
  unfold f_X12_readsClause at hF
  obtain ⟨S0, hS0e⟩ : ∃ f : Nat → Value, f = σ bs := ⟨_, rfl⟩
  obtain ⟨F, hFe⟩ : ∃ n : Nat, n = cq.toInt.toNat := ⟨_, rfl⟩
  replace hF := fx_R hF hbs rfl
  replace hF := fx_R hF hbw rfl
  replace hF := fx_R hF hbf rfl
  replace hF := fx_R hF hbh rfl
  replace hF := fx_R hF hbt rfl
  replace hF := fx_I hF hcq rfl
  replace hF := fx_I hF hwq rfl
  replace hF := fx_I hF hpq rfl
  replace hF := fx_I hF hmq rfl
  refine q_aload_n (pc := 0) hG dX12_readsClause_0 0 rfl ?_
  refine q_pV (pc := 1) [] [] hG (c_X12_here τ σ a0 hI tA0) my_X12_here mv_X12_here w879 dX12_readsClause_1 tA0 (by decide) rfl rfl (Nat.le_of_ble_eq_true rfl) (by decide) (fun v1 p1 => ?_)
  replace hF := fx_E hF p1.2.1
  refine q_istore_n (pc := 4) [(1, .int v1), (0, .ref a0)] hG dX12_readsClause_4 (by decide) rfl ?_
  refine q_iload_n (pc := 5) hG dX12_readsClause_5 0 rfl ?_
  refine q_pS (pc := 6) [.int v1] [] hG (c_X12_isClause τ σ v1 hI) my_X12_isClause w905 w904 dX12_readsClause_6 rfl rfl (Nat.le_of_ble_eq_true rfl) (by decide) (fun v6 p6 => ?_)
  replace hF := fx_E hF p6.2.1
  refine q_if_ne (pc := 9) hG 22 dX12_readsClause_9 rfl ?_ ?_
  · intro c9
    replace hF := fx_eq2 hF rfl rfl c9
    refine q_aload_n (pc := 22) hG dX12_readsClause_22 1 rfl ?_
    refine q_getV (pc := 23) (v := .int mq) hG fl_X12_224 dX12_readsClause_23 tA0 hmq ?_
    refine q_bipush (pc := 26) hG dX12_readsClause_26 kb_16 ?_
    refine q_icmp_ne (pc := 28) hG 41 dX12_readsClause_28 rfl ?_ ?_
    · intro c28
      replace hF := fx_eq2 hF rfl tl_16 c28
      refine q_aload_n (pc := 41) hG dX12_readsClause_41 1 rfl ?_
      refine q_getR (pc := 42) (k2 := 152) (n2 := 16) hG fl_X12_29 dX12_readsClause_42 hI tA0 ff_10_17 (fun b42 f42 T42 => ?_)
      replace hF := fx_R hF f42 rfl
      refine q_aload_n (pc := 45) hG dX12_readsClause_45 1 rfl ?_
      refine q_getV (pc := 46) (v := .int mq) hG fl_X12_224 dX12_readsClause_46 tA0 hmq ?_
      refine q_iload_n (pc := 49) hG dX12_readsClause_49 0 rfl ?_
      have r_1 := q_neH (c := 15) rmq (q_nel c28 tl_16) (by decide)
      refine q_iast (pc := 50) hG dX12_readsClause_50 hS0 ai_152 T42 (q_ix r_1 (by decide)) p1.1 (by decide) rfl (fun s50 u50 w50 => ?_)
      replace hF := fx_P hF u50 rfl rfl
      have m50 : s50 b42 mq.toInt.toNat = .int v1 := by rw [u50]; exact q_up_same
      refine q_aload_n (pc := 51) hG dX12_readsClause_51 1 rfl ?_
      refine q_aload_n (pc := 52) hG dX12_readsClause_52 1 rfl ?_
      refine q_getV (pc := 53) (v := .int pq) hG fl_X12_126 dX12_readsClause_53 tA0 (by rw [u50]; exact (q_keepK tA0 T42 (by decide)).trans hpq) ?_
      refine q_iconst (pc := 56) hG dX12_readsClause_56 ki_1 ?_
      refine q_iadd (pc := 57) hG dX12_readsClause_57 (fun v57 e57 => ?_)
      replace hF := fx_add hF rfl tl_1 (q_addN (lo := 1) (hi := 261) e57 (show q_r pq 0 260 from ⟨by have q := hcp; omega, by have q := hcp; omega⟩) rl_1 (by decide)).1
      have r_2 := (q_addN (lo := 1) (hi := 261) e57 (show q_r pq 0 260 from ⟨by have q := hcp; omega, by have q := hcp; omega⟩) rl_1 (by decide)).2
      have r_3 := q_neL (c := 1) p6.1 c9 (by decide)
      refine q_putI (pc := 58) hG fl_X12_126 dX12_readsClause_58 w50 tA0 ff_10_5 (show q_r v57 0 260 from ⟨(by have o0 := (q_addN (lo := 1) (hi := 261) e57 (show q_r pq 0 260 from ⟨by have q := hcp; omega, by have q := hcp; omega⟩) rl_1 (by decide)).1; have o1 := hcp; have o2 := (p1.2.2.1 pq hpq); have o3 := p1.2.2.2; have o4 := p6.2.2; have o5 := c9; have o6 := (show q_r cq 0 260 from ⟨by have q := hcp; omega, by have q := hcp; omega⟩); have o7 := (show q_r pq 0 260 from ⟨by have q := hcp; omega, by have q := hcp; omega⟩); have o8 := p1.1; have o9 := r_2; have o10 := r_3; have l11 := tl_1; unfold q_r at o6 o7 o8 o9 o10; omega), (by have o0 := (q_addN (lo := 1) (hi := 261) e57 (show q_r pq 0 260 from ⟨by have q := hcp; omega, by have q := hcp; omega⟩) rl_1 (by decide)).1; have o1 := hcp; have o2 := (p1.2.2.1 pq hpq); have o3 := p1.2.2.2; have o4 := p6.2.2; have o5 := c9; have o6 := (show q_r cq 0 260 from ⟨by have q := hcp; omega, by have q := hcp; omega⟩); have o7 := (show q_r pq 0 260 from ⟨by have q := hcp; omega, by have q := hcp; omega⟩); have o8 := p1.1; have o9 := r_2; have o10 := r_3; have l11 := tl_1; unfold q_r at o6 o7 o8 o9 o10; omega)⟩) (by decide) rfl (fun s58 u58 w58 => ?_)
      replace hF := fx_P hF u58 rfl rfl
      have m58 : s58 a0 5 = .int v57 := by rw [u58]; exact q_up_same
      refine q_aload_n (pc := 61) hG dX12_readsClause_61 1 rfl ?_
      refine q_getV (pc := 62) (v := .ref bf) hG fl_X12_32 dX12_readsClause_62 tA0 (w58.same tA0 rfl hbf) ?_
      refine q_aload_n (pc := 65) hG dX12_readsClause_65 1 rfl ?_
      refine q_getV (pc := 66) (v := .int mq) hG fl_X12_224 dX12_readsClause_66 tA0 (by rw [u58]; exact (q_up_else (Or.inr (by decide))).trans (by rw [u50]; exact (q_keepK tA0 T42 (by decide)).trans hmq)) ?_
      refine q_aload_n (pc := 69) hG dX12_readsClause_69 1 rfl ?_
      refine q_getV (pc := 70) (v := .int cq) hG fl_X12_150 dX12_readsClause_70 tA0 (by rw [u58]; exact (q_up_else (Or.inr (by decide))).trans (by rw [u50]; exact (q_keepK tA0 T42 (by decide)).trans hcq)) ?_
      refine q_iast (pc := 73) hG dX12_readsClause_73 w58 ai_153 Tbf (q_ix r_1 (by decide)) (show q_r cq 0 260 from ⟨by have q := hcp; omega, by have q := hcp; omega⟩) (by decide) rfl (fun s73 u73 w73 => ?_)
      replace hF := fx_P hF u73 rfl rfl
      have m73 : s73 bf mq.toInt.toNat = .int cq := by rw [u73]; exact q_up_same
      refine q_aload_n (pc := 74) hG dX12_readsClause_74 1 rfl ?_
      refine q_iconst (pc := 75) hG dX12_readsClause_75 ki_0 ?_
      refine q_putI (pc := 76) hG fl_X12_154 dX12_readsClause_76 w73 tA0 ff_10_9 rl_0 (by decide) rfl (fun s76 u76 w76 => ?_)
      replace hF := fx_P hF u76 rfl tl_0
      have m76 : s76 a0 9 = .int 0 := by rw [u76]; exact q_up_same
      refine q_aload_n (pc := 79) hG dX12_readsClause_79 1 rfl ?_
      refine q_iconst (pc := 80) hG dX12_readsClause_80 ki_0 ?_
      refine q_putI (pc := 81) hG fl_X12_157 dX12_readsClause_81 w76 tA0 ff_10_11 rl_0 (by decide) rfl (fun s81 u81 w81 => ?_)
      replace hF := fx_P hF u81 rfl tl_0
      have m81 : s81 a0 11 = .int 0 := by rw [u81]; exact q_up_same
      have Q81 : q_sm (s81 bs) (s81 bw) S0 F cq.toInt (0 : Int32).toInt 0 v57.toInt (0 : Int32).toInt 0 := by
        rw [((by rw [u81]; exact q_upK Tbs tA0 (by decide) : s81 bs = s76 bs).trans ((by rw [u76]; exact q_upK Tbs tA0 (by decide) : s76 bs = s73 bs).trans ((by rw [u73]; exact q_upK Tbs Tbf (by decide) : s73 bs = s58 bs).trans ((by rw [u58]; exact q_upK Tbs tA0 (by decide) : s58 bs = s50 bs).trans (by rw [u50]; exact q_upK Tbs T42 (by decide) : s50 bs = σ bs))))), tl_0, hS0e, hFe]
        exact (q_cn.new (by have o0 := hcp; have o1 := (p1.2.2.1 pq hpq); have o2 := p1.2.2.2; have o3 := p6.2.2; have o4 := c9; have o5 := (q_addN (lo := 1) (hi := 261) e57 (show q_r pq 0 260 from ⟨by have q := hcp; omega, by have q := hcp; omega⟩) rl_1 (by decide)).1; have o6 := (show q_r cq 0 260 from ⟨by have q := hcp; omega, by have q := hcp; omega⟩); have o7 := (show q_r pq 0 260 from ⟨by have q := hcp; omega, by have q := hcp; omega⟩); have o8 := p1.1; have o9 := r_2; have o10 := r_3; have l11 := tl_1; unfold q_r at o6 o7 o8 o9 o10; omega)).sm
      refine q_aload_n (pc := 84) hG dX12_readsClause_84 1 rfl ?_
      refine q_cVi (pc := 85) [] [] hG (c_X12_readsSum τ s81 a0 w81.1 tA0 bs bw (w81.same tA0 rfl hbs) (w81.same tA0 rfl hbw) Tbs Tbw cq (0 : Int32) v57 (by rw [u81]; exact (q_up_else (Or.inr (by decide))).trans (by rw [u76]; exact (q_up_else (Or.inr (by decide))).trans (by rw [u73]; exact (q_keepK tA0 Tbf (by decide)).trans (by rw [u58]; exact (q_up_else (Or.inr (by decide))).trans (by rw [u50]; exact (q_keepK tA0 T42 (by decide)).trans hcq))))) m81 (by rw [u81]; exact (q_up_else (Or.inr (by decide))).trans (by rw [u76]; exact (q_up_else (Or.inr (by decide))).trans (by rw [u73]; exact (q_keepK tA0 Tbf (by decide)).trans m58))) S0 F (0) (0) Q81 (by decide)) my_X12_readsSum mv_X12_readsSum w907 dX12_readsClause_85 tA0 (by decide) rfl rfl (Nat.le_of_ble_eq_true rfl) (by decide) (fun v85 s85 p85 => ?_)
      have w85 := w81.trans p85.1 rfl
      replace hF := fx_C hF p85.2.2.1
      refine q_if_ne (pc := 88) hG 93 dX12_readsClause_88 rfl ?_ ?_
      · intro c88
        have g_4 := p85.2.2.2 (q_one p85.2.1 c88)
        obtain ⟨c4_85, p4_85, ⟨fc85, fw85, fp85⟩, qq85, lp85, ek85⟩ := g_4
        have Q85 : q_sm (s85 bs) (s85 bw) S0 F c4_85.toInt (0 : Int32).toInt 0 p4_85.toInt (0 : Int32).toInt 1 := by
          exact qq85
        replace hF := fx_eq2 hF rfl rfl c88
        replace hF := fx_I hF fc85 rfl
        replace hF := fx_I hF fp85 rfl
        refine q_aload_n (pc := 93) hG dX12_readsClause_93 1 rfl ?_
        refine q_getV (pc := 94) (v := .ref bh) hG fl_X12_35 dX12_readsClause_94 tA0 (w85.same tA0 rfl hbh) ?_
        refine q_aload_n (pc := 97) hG dX12_readsClause_97 1 rfl ?_
        refine q_getV (pc := 98) (v := .int mq) hG fl_X12_224 dX12_readsClause_98 tA0 (p85.1.same tA0 rfl (by rw [u81]; exact (q_up_else (Or.inr (by decide))).trans (by rw [u76]; exact (q_up_else (Or.inr (by decide))).trans (by rw [u73]; exact (q_keepK tA0 Tbf (by decide)).trans (by rw [u58]; exact (q_up_else (Or.inr (by decide))).trans (by rw [u50]; exact (q_keepK tA0 T42 (by decide)).trans hmq)))))) ?_
        refine q_aload_n (pc := 101) hG dX12_readsClause_101 1 rfl ?_
        refine q_getV (pc := 102) (v := .int c4_85) hG fl_X12_150 dX12_readsClause_102 tA0 fc85 ?_
        have r_5 := (show q_r c4_85 0 260 from ⟨by have q := Q85.rng; omega, by have q := Q85.rng; omega⟩)
        refine q_iast (pc := 105) hG dX12_readsClause_105 w85 ai_154 Tbh (q_ix r_1 (by decide)) r_5 (by decide) rfl (fun s105 u105 w105 => ?_)
        replace hF := fx_P hF u105 rfl rfl
        have m105 : s105 bh mq.toInt.toNat = .int c4_85 := by rw [u105]; exact q_up_same
        refine q_aload_n (pc := 106) hG dX12_readsClause_106 1 rfl ?_
        have r_6 := (show q_r p4_85 0 260 from ⟨by have q := Q85.rng; omega, by have q := Q85.rng; omega⟩)
        have r_7 := (show q_r v57 0 260 from ⟨by have q := Q81.rng; omega, by have q := Q81.rng; omega⟩)
        refine q_cVi (pc := 107) [] [] hG (c_X12_readsCondition τ s105 a0 w105.1 tA0 bs bw (w105.same tA0 rfl hbs) (w105.same tA0 rfl hbw) Tbs Tbw c4_85 (0 : Int32) p4_85 (by rw [u105]; exact (q_keepK tA0 Tbh (by decide)).trans fc85) (by rw [u105]; exact (q_keepK tA0 Tbh (by decide)).trans fw85) (by rw [u105]; exact (q_keepK tA0 Tbh (by decide)).trans fp85) (by have o0 := Q85.rng; have o1 := lp85; have o2 := (q_addN (lo := 1) (hi := 261) e57 (show q_r pq 0 260 from ⟨by have q := hcp; omega, by have q := hcp; omega⟩) rl_1 (by decide)).1; have o3 := Q81.rng; have o4 := hcp; have o5 := (p1.2.2.1 pq hpq); have o6 := p1.2.2.2; have o7 := p6.2.2; have o8 := c9; have o9 := r_5; have o10 := (show q_r cq 0 260 from ⟨by have q := hcp; omega, by have q := hcp; omega⟩); have o11 := r_6; have o12 := (show q_r pq 0 260 from ⟨by have q := hcp; omega, by have q := hcp; omega⟩); have o13 := p1.1; have o14 := r_7; have o15 := r_3; have l16 := tl_0; have l17 := tl_1; unfold q_r at o9 o10 o11 o12 o13 o14 o15; omega)) my_X12_readsCondition mv_X12_readsCondition w938 dX12_readsClause_107 tA0 (by decide) rfl rfl (Nat.le_of_ble_eq_true rfl) (by decide) (fun v107 s107 p107 => ?_)
        have w107 := w105.trans p107.1 rfl
        replace hF := fx_C hF p107.2.2.1
        refine q_if_ne (pc := 110) hG 115 dX12_readsClause_110 rfl ?_ ?_
        · intro c110
          have g_8 := p107.2.2.2 (q_one p107.2.1 c110)
          obtain ⟨c5_107, p5_107, ⟨fc107, fp107⟩, lc107, ek107, sg107⟩ := g_8
          replace hF := fx_eq2 hF rfl rfl c110
          replace hF := fx_I hF fc107 rfl
          replace hF := fx_I hF fp107 rfl
          refine q_aload_n (pc := 115) hG dX12_readsClause_115 1 rfl ?_
          refine q_getV (pc := 116) (v := .ref bt) hG fl_X12_38 dX12_readsClause_116 tA0 (w107.same tA0 rfl hbt) ?_
          refine q_aload_n (pc := 119) hG dX12_readsClause_119 1 rfl ?_
          refine q_getV (pc := 120) (v := .int mq) hG fl_X12_224 dX12_readsClause_120 tA0 (p107.1.same tA0 rfl (by rw [u105]; exact (q_keepK tA0 Tbh (by decide)).trans (p85.1.same tA0 rfl (by rw [u81]; exact (q_up_else (Or.inr (by decide))).trans (by rw [u76]; exact (q_up_else (Or.inr (by decide))).trans (by rw [u73]; exact (q_keepK tA0 Tbf (by decide)).trans (by rw [u58]; exact (q_up_else (Or.inr (by decide))).trans (by rw [u50]; exact (q_keepK tA0 T42 (by decide)).trans hmq)))))))) ?_
          refine q_aload_n (pc := 123) hG dX12_readsClause_123 1 rfl ?_
          refine q_getV (pc := 124) (v := .int c5_107) hG fl_X12_150 dX12_readsClause_124 tA0 fc107 ?_
          refine q_iast (pc := 127) hG dX12_readsClause_127 w107 ai_155 Tbt (q_ix r_1 (by decide)) (q_r_any c5_107) (by decide) rfl (fun s127 u127 w127 => ?_)
          replace hF := fx_P hF u127 rfl rfl
          have m127 : s127 bt mq.toInt.toNat = .int c5_107 := by rw [u127]; exact q_up_same
          refine q_aload_n (pc := 128) hG dX12_readsClause_128 1 rfl ?_
          refine q_aload_n (pc := 129) hG dX12_readsClause_129 1 rfl ?_
          refine q_getV (pc := 130) (v := .int mq) hG fl_X12_224 dX12_readsClause_130 tA0 (by rw [u127]; exact (q_keepK tA0 Tbt (by decide)).trans (p107.1.same tA0 rfl (by rw [u105]; exact (q_keepK tA0 Tbh (by decide)).trans (p85.1.same tA0 rfl (by rw [u81]; exact (q_up_else (Or.inr (by decide))).trans (by rw [u76]; exact (q_up_else (Or.inr (by decide))).trans (by rw [u73]; exact (q_keepK tA0 Tbf (by decide)).trans (by rw [u58]; exact (q_up_else (Or.inr (by decide))).trans (by rw [u50]; exact (q_keepK tA0 T42 (by decide)).trans hmq))))))))) ?_
          refine q_iconst (pc := 133) hG dX12_readsClause_133 ki_1 ?_
          refine q_iadd (pc := 134) hG dX12_readsClause_134 (fun v134 e134 => ?_)
          replace hF := fx_add hF rfl tl_1 (q_addN (lo := 1) (hi := 16) e134 r_1 rl_1 (by decide)).1
          have r_9 := (q_addN (lo := 1) (hi := 16) e134 r_1 rl_1 (by decide)).2
          refine q_putI (pc := 135) hG fl_X12_224 dX12_readsClause_135 w127 tA0 ff_10_12 r_9 (by decide) rfl (fun s135 u135 w135 => ?_)
          replace hF := fx_P hF u135 rfl rfl
          have m135 : s135 a0 12 = .int v134 := by rw [u135]; exact q_up_same
          refine q_iconst (pc := 138) hG dX12_readsClause_138 ki_1 ?_
          have r1 : s135 bf = updV (σ bf) mq.toInt.toNat (.int cq) := (by rw [((by rw [u135]; exact q_upK Tbf tA0 (by decide) : s135 bf = s127 bf).trans ((by rw [u127]; exact q_upK Tbf Tbt (by decide) : s127 bf = s107 bf).trans (((funext fun j => p107.1.2.arr Tbf (by decide) rfl) : s107 bf = s105 bf).trans ((by rw [u105]; exact q_upK Tbf Tbh (by decide) : s105 bf = s85 bf).trans (((funext fun j => p85.1.2.arr Tbf (by decide) rfl) : s85 bf = s81 bf).trans ((by rw [u81]; exact q_upK Tbf tA0 (by decide) : s81 bf = s76 bf).trans (by rw [u76]; exact q_upK Tbf tA0 (by decide) : s76 bf = s73 bf))))))), u73, q_upF, ((by rw [u58]; exact q_upK Tbf tA0 (by decide) : s58 bf = s50 bf).trans (by rw [u50]; exact q_upK Tbf T42 (by decide) : s50 bf = σ bf))])
          have r2 : s135 bh = updV (σ bh) mq.toInt.toNat (.int c4_85) := (by rw [((by rw [u135]; exact q_upK Tbh tA0 (by decide) : s135 bh = s127 bh).trans ((by rw [u127]; exact q_upK Tbh Tbt (by decide) : s127 bh = s107 bh).trans ((funext fun j => p107.1.2.arr Tbh (by decide) rfl) : s107 bh = s105 bh))), u105, q_upF, (((funext fun j => p85.1.2.arr Tbh (by decide) rfl) : s85 bh = s81 bh).trans ((by rw [u81]; exact q_upK Tbh tA0 (by decide) : s81 bh = s76 bh).trans ((by rw [u76]; exact q_upK Tbh tA0 (by decide) : s76 bh = s73 bh).trans ((by rw [u73]; exact q_upK Tbh Tbf (by decide) : s73 bh = s58 bh).trans ((by rw [u58]; exact q_upK Tbh tA0 (by decide) : s58 bh = s50 bh).trans (by rw [u50]; exact q_upK Tbh T42 (by decide) : s50 bh = σ bh))))))])
          have r3 : s135 bt = updV (σ bt) mq.toInt.toNat (.int c5_107) := (by rw [(by rw [u135]; exact q_upK Tbt tA0 (by decide) : s135 bt = s127 bt), u127, q_upF, (((funext fun j => p107.1.2.arr Tbt (by decide) rfl) : s107 bt = s105 bt).trans ((by rw [u105]; exact q_upK Tbt Tbh (by decide) : s105 bt = s85 bt).trans (((funext fun j => p85.1.2.arr Tbt (by decide) rfl) : s85 bt = s81 bt).trans ((by rw [u81]; exact q_upK Tbt tA0 (by decide) : s81 bt = s76 bt).trans ((by rw [u76]; exact q_upK Tbt tA0 (by decide) : s76 bt = s73 bt).trans ((by rw [u73]; exact q_upK Tbt Tbf (by decide) : s73 bt = s58 bt).trans ((by rw [u58]; exact q_upK Tbt tA0 (by decide) : s58 bt = s50 bt).trans (by rw [u50]; exact q_upK Tbt T42 (by decide) : s50 bt = σ bt))))))))])
          have q85 := Q85
          rw [show (0 : Int32).toInt = 0 from rfl, hFe, hS0e] at q85
          have sd : q_sd (s135 bs) (s135 bf) (s135 bh) (s135 bt) v134.toInt c5_107.toInt := by
            rw [((by rw [u135]; exact q_upK Tbs tA0 (by decide) : s135 bs = s127 bs).trans (by rw [u127]; exact q_upK Tbs Tbt (by decide) : s127 bs = s107 bs)), r1, r2, r3, (show v134.toInt = mq.toInt + 1 from (by have o0 := c28; have o1 := (q_addN (lo := 1) (hi := 16) e134 r_1 rl_1 (by decide)).1; have o2 := r_1; have o3 := r_9; have l4 := tl_1; have l5 := tl_16; unfold q_r at o2 o3; omega))]
            exact hsd.more (fs1 := s85 bs) (by have o0 := c28; have o1 := (q_addN (lo := 1) (hi := 16) e134 r_1 rl_1 (by decide)).1; have o2 := r_1; have o3 := r_9; have l4 := tl_1; have l5 := tl_16; unfold q_r at o2 o3; omega) ⟨(by have o0 := hcp; have o1 := (p1.2.2.1 pq hpq); have o2 := p1.2.2.2; have o3 := p6.2.2; have o4 := c9; have o5 := (q_addN (lo := 1) (hi := 261) e57 (show q_r pq 0 260 from ⟨by have q := hcp; omega, by have q := hcp; omega⟩) rl_1 (by decide)).1; have o6 := Q81.rng; have o7 := lp85; have o8 := lc107; have o9 := Q85.rng; have o10 := r_5; have o11 := (show q_r cq 0 260 from ⟨by have q := hcp; omega, by have q := hcp; omega⟩); have o12 := r_6; have o13 := (show q_r pq 0 260 from ⟨by have q := hcp; omega, by have q := hcp; omega⟩); have o14 := p1.1; have o15 := r_7; have o16 := r_3; have l17 := tl_0; have l18 := tl_1; unfold q_r at o10 o11 o12 o13 o14 o15 o16; omega), (by have q := q85.2.1.1; have q2 := hcp; omega), (by have o0 := Q85.rng; have o1 := lp85; have o2 := lc107; have o3 := (q_addN (lo := 1) (hi := 261) e57 (show q_r pq 0 260 from ⟨by have q := hcp; omega, by have q := hcp; omega⟩) rl_1 (by decide)).1; have o4 := Q81.rng; have o5 := hcp; have o6 := (p1.2.2.1 pq hpq); have o7 := p1.2.2.2; have o8 := p6.2.2; have o9 := c9; have o10 := r_5; have o11 := (show q_r cq 0 260 from ⟨by have q := hcp; omega, by have q := hcp; omega⟩); have o12 := r_6; have o13 := (show q_r pq 0 260 from ⟨by have q := hcp; omega, by have q := hcp; omega⟩); have o14 := p1.1; have o15 := r_7; have o16 := r_3; have l17 := tl_0; have l18 := tl_1; unfold q_r at o10 o11 o12 o13 o14 o15 o16; omega)⟩ q85.2.2.2.2.2.2 (fun k hk => (ek107 k hk).trans (congrFun (by rw [u105]; exact q_upK Tbs Tbh (by decide) : s105 bs = s85 bs) k)) (q85.1.seg q85.2.1.1) sg107
          exact q_zrt hG hE dX12_readsClause_139 (q_r.mono rl_1 (by decide)) ⟨w135, (q_r.mono rl_1 (by decide)), (by rw [tl_1]; exact fx_end hF hF0), (fun _ => q_x.mk ⟨c5_107, p5_107, v134, ⟨(by rw [u135]; exact (q_up_else (Or.inr (by decide))).trans (by rw [u127]; exact (q_keepK tA0 Tbt (by decide)).trans fc107)), (by rw [u135]; exact (q_up_else (Or.inr (by decide))).trans (by rw [u127]; exact (q_keepK tA0 Tbt (by decide)).trans fp107)), m135⟩, ⟨(by have o0 := lc107; have o1 := Q85.rng; have o2 := lp85; have o3 := (q_addN (lo := 1) (hi := 261) e57 (show q_r pq 0 260 from ⟨by have q := hcp; omega, by have q := hcp; omega⟩) rl_1 (by decide)).1; have o4 := Q81.rng; have o5 := hcp; have o6 := (p1.2.2.1 pq hpq); have o7 := p1.2.2.2; have o8 := p6.2.2; have o9 := c9; have o10 := r_5; have o11 := (show q_r cq 0 260 from ⟨by have q := hcp; omega, by have q := hcp; omega⟩); have o12 := r_6; have o13 := (show q_r pq 0 260 from ⟨by have q := hcp; omega, by have q := hcp; omega⟩); have o14 := p1.1; have o15 := r_7; have o16 := r_3; have l17 := tl_0; have l18 := tl_1; unfold q_r at o10 o11 o12 o13 o14 o15 o16; omega), (by have o0 := hcp; have o1 := (p1.2.2.1 pq hpq); have o2 := p1.2.2.2; have o3 := p6.2.2; have o4 := c9; have o5 := (q_addN (lo := 1) (hi := 261) e57 (show q_r pq 0 260 from ⟨by have q := hcp; omega, by have q := hcp; omega⟩) rl_1 (by decide)).1; have o6 := Q81.rng; have o7 := lp85; have o8 := lc107; have o9 := Q85.rng; have o10 := r_5; have o11 := (show q_r cq 0 260 from ⟨by have q := hcp; omega, by have q := hcp; omega⟩); have o12 := r_6; have o13 := (show q_r pq 0 260 from ⟨by have q := hcp; omega, by have q := hcp; omega⟩); have o14 := p1.1; have o15 := r_7; have o16 := r_3; have l17 := tl_0; have l18 := tl_1; unfold q_r at o10 o11 o12 o13 o14 o15 o16; omega), (by have o0 := c28; have o1 := (q_addN (lo := 1) (hi := 16) e134 r_1 rl_1 (by decide)).1; have o2 := r_1; have o3 := r_9; have l4 := tl_1; have l5 := tl_16; unfold q_r at o2 o3; omega)⟩, (q_r.mono r_9 (by decide)), sd⟩)⟩
        intro c110
        replace hF := fx_eq1 hF rfl rfl c110
        refine q_iconst (pc := 113) hG dX12_readsClause_113 ki_0 ?_
        exact q_zrt hG hE dX12_readsClause_114 (q_r.mono rl_0 (by decide)) ⟨w107, (q_r.mono rl_0 (by decide)), (by rw [tl_0]; exact fx_end hF hF0), (fun q => absurd q (by have l0 := tl_0; omega))⟩
      intro c88
      replace hF := fx_eq1 hF rfl rfl c88
      refine q_iconst (pc := 91) hG dX12_readsClause_91 ki_0 ?_
      exact q_zrt hG hE dX12_readsClause_92 (q_r.mono rl_0 (by decide)) ⟨w85, (q_r.mono rl_0 (by decide)), (by rw [tl_0]; exact fx_end hF hF0), (fun q => absurd q (by have l0 := tl_0; omega))⟩
    intro c28
    replace hF := fx_eq1 hF rfl tl_16 c28
    refine q_aload_n (pc := 31) hG dX12_readsClause_31 1 rfl ?_
    refine q_iconst (pc := 32) hG dX12_readsClause_32 ki_4 ?_
    refine q_aload_n (pc := 33) hG dX12_readsClause_33 1 rfl ?_
    refine q_getV (pc := 34) (v := .int pq) hG fl_X12_126 dX12_readsClause_34 tA0 hpq ?_
    refine q_cVi (pc := 37) [.int 4, .int pq] [] hG (c_X12_wrongAt τ σ a0 4 pq hI tA0) my_X12_wrongAt mv_X12_wrongAt w888 dX12_readsClause_37 tA0 (by decide) rfl rfl (Nat.le_of_ble_eq_true rfl) (by decide) (fun v37 s37 p37 => ?_)
    have w37 := hS0.trans p37.1 rfl
    have fq37 := p37.2.2
    rewrite [tl_4] at fq37
    replace hF := fx_C hF fq37
    exact q_zrt hG hE dX12_readsClause_40 (q_r.mono p37.2.1 (by decide)) ⟨w37, (q_r.mono p37.2.1 (by decide)), (fx_end hF hF0), (fun q => absurd q (by have o0 := p37.2.1; unfold q_r at o0; omega))⟩
  intro c9
  replace hF := fx_eq1 hF rfl rfl c9
  refine q_aload_n (pc := 12) hG dX12_readsClause_12 1 rfl ?_
  refine q_iconst (pc := 13) hG dX12_readsClause_13 ki_1 ?_
  refine q_aload_n (pc := 14) hG dX12_readsClause_14 1 rfl ?_
  refine q_getV (pc := 15) (v := .int pq) hG fl_X12_126 dX12_readsClause_15 tA0 hpq ?_
  refine q_cVi (pc := 18) [.int 1, .int pq] [] hG (c_X12_wrongAt τ σ a0 1 pq hI tA0) my_X12_wrongAt mv_X12_wrongAt w888 dX12_readsClause_18 tA0 (by decide) rfl rfl (Nat.le_of_ble_eq_true rfl) (by decide) (fun v18 s18 p18 => ?_)
  have w18 := hS0.trans p18.1 rfl
  have fq18 := p18.2.2
  rewrite [tl_1] at fq18
  replace hF := fx_C hF fq18
  exact q_zrt hG hE dX12_readsClause_21 (q_r.mono p18.2.1 (by decide)) ⟨w18, (q_r.mono p18.2.1 (by decide)), (fx_end hF hF0), (fun q => absurd q (by have o0 := p18.2.1; unfold q_r at o0; omega))⟩
