/-! the road of the class, and the first road of the reference -/
theorem q_md9 {md : List (Nat × Nat)} {k : Nat} (h : md.all (fun q => q.1 != k) = true) (j : Nat) : md.contains (k, if k < 100 then j else 0) = false := by
  rw [Bool.eq_false_iff]
  intro hc
  have h1 := List.contains_iff_mem.mp hc
  have h2 := List.all_eq_true.mp h _ h1
  simp at h2
/-- the reference's row while it is laid for the first time -/
def q_n0 (f : Nat → Value) (x1 : Int32) : Prop := f 512 = .int x1 ∧ ∀ j : Nat, j < 64 → ∃ x : Int32, f j = .int x ∧ q_r x (-99) 99
theorem q_n0.new {f g : Nat → Value} {x1 : Int32} (e : g = updV f (512 : Int32).toInt.toNat (.int x1)) (h : ∀ j : Nat, j < 64 → ∃ x : Int32, f j = .int x ∧ q_r x (-99) 99) : q_n0 g x1 := by
  have e2 : (512 : Int32).toInt.toNat = 512 := by decide
  rw [e2] at e
  subst e
  exact ⟨q_us, fun j hj => by rw [q_uo (by omega)]; exact h j hj⟩
theorem q_n0.put {f g : Nat → Value} {x1 v : Int32} {n : Nat} (e : g = updV f n (.int v)) (h : q_n0 f x1) (hn : n ≠ 512) (hv : n < 64 → q_r v (-99) 99) : q_n0 g x1 := by
  subst e
  refine ⟨by rw [q_uo (Ne.symm hn)]; exact h.1, fun j hj => ?_⟩
  by_cases q : j = n
  · rw [q, q_us]; exact ⟨v, rfl, hv (by omega)⟩
  · rw [q_uo q]; exact h.2 j hj
theorem q_n0.same {f g : Nat → Value} {x1 : Int32} (e : ∀ j : Nat, j < 64 ∨ j = 512 → g j = f j) (h : q_n0 f x1) : q_n0 g x1 := ⟨by rw [e 512 (Or.inr rfl)]; exact h.1, fun j hj => by rw [e j (Or.inl hj)]; exact h.2 j hj⟩
theorem q_n0.all {τ : q_T} {σ : q_V} {b : Nat} {x1 : Int32} (h : q_n0 (σ b) x1) (hx : q_r x1 8 64) (h1 : σ b 520 = .int (-2)) (h2 : σ b 521 = .int (-2)) (hI : q_I τ σ) (hT : τ b = some (103, 549)) : ∀ j : Nat, j < 549 → q_v τ (q_f 100 j) (σ b j) := by
  intro j hj
  by_cases a1 : j = 512
  · subst a1; rw [h.1]; exact q_vi (lo := 8) (hi := 64) rfl hx (by decide)
  by_cases a2 : j = 520
  · subst a2; rw [h1]; exact q_vi3 (lo := -2) (hi := 63) rfl (show q_r (-2) (-2) (-2) from ⟨by decide, by decide⟩) (by decide) (by decide)
  by_cases a3 : j = 521
  · subst a3; rw [h2]; exact q_vi3 (lo := -2) (hi := 63) rfl (show q_r (-2) (-2) (-2) from ⟨by decide, by decide⟩) (by decide) (by decide)
  by_cases a4 : j < 64
  · obtain ⟨x, e1, e2⟩ := h.2 j a4
    rw [e1]
    exact q_nrow (by omega) e2
  · obtain ⟨x, e1, e2⟩ := (hI b 103 549 hT j (by rw [q_limA (by decide)]; exact hj)).int (ai_103.2.2 j)
    rw [e1, q_nfree (by omega)]
    exact q_vi rfl e2 ⟨Int.le_refl _, Int.le_refl _⟩
theorem q_f103 (k j : Nat) : (q_f k j).1 = 1 → (q_f k j).2.1 ≠ 103 := by
  unfold q_f
  by_cases h1 : k < 100
  · rw [if_pos h1]
    have ha : ∀ r ∈ q_ft, ∀ t ∈ r, t.2.1 ≠ 103 := by decide
    intro _
    rw [List.getD_eq_getElem?_getD]
    cases e : (q_ft.getD k [])[j]? with
    | none => exact (by decide : (0 : Int) ≠ 103)
    | some t =>
      have h2 : t ∈ q_ft.getD k [] := List.mem_of_getElem? e
      rw [List.getD_eq_getElem?_getD] at h2
      cases e2 : q_ft[k]? with
      | none => rw [e2] at h2; exact absurd h2 (by simp)
      | some r => rw [e2] at h2; exact ha r (List.mem_of_getElem? e2) t h2
  · rw [if_neg h1]
    by_cases h2 : k = 100
    · rw [if_pos h2]
      unfold q_now
      repeat (first | (intro h; exact absurd h (by decide)) | split)
    · rw [if_neg h2]
      by_cases h3 : k < 200
      · rw [if_pos h3]
        unfold q_ai
        repeat (first | (intro h; exact absurd h (by decide)) | split)
      · rw [if_neg h3]
        repeat (first | (intro h; exact absurd h (by decide)) | (intro _; exact (by decide : (140 : Int) ≠ 103)) | split)
theorem q_I.retA {τ : q_T} {σ : q_V} {h n : Nat} (hI : q_I τ σ) (hT : τ h = some (103, n)) (hv : ∀ j : Nat, j < n → q_v τ (q_f 100 j) (σ h j)) : q_I (q_tu τ h (100, n)) σ := by
  have ext : ∀ (k j : Nat) (v : Value), q_v τ (q_f k j) v → q_v (q_tu τ h (100, n)) (q_f k j) v := by
    intro k j v hq
    rcases hq with q | ⟨q1, b, q2, q3, q4⟩ | q | q
    · exact Or.inl q
    · refine Or.inr (Or.inl ⟨q1, b, q2, ?_, q4⟩)
      have e : b ≠ h := fun e => by
        rw [e, hT] at q3
        have := q_f103 k j q1
        have e3 : (103 : Nat) = (q_f k j).2.1.toNat := congrArg Prod.fst (Option.some.inj q3)
        omega
      rw [q_tu_ne e]
      exact q3
    · exact Or.inr (Or.inr (Or.inl q))
    · exact Or.inr (Or.inr (Or.inr q))
  intro b k2 n2 hb j hj
  by_cases e : b = h
  · subst e
    rw [q_tu_new] at hb
    cases hb
    rw [q_limA (by decide)] at hj
    exact ext 100 j _ (hv j hj)
  · rw [q_tu_ne e] at hb
    exact ext k2 j _ (hI b k2 n2 hb j hj)

theorem dX7_init_0 : decode cX7_init 0 = .ok (.aload_n 0, 1) := by decide +kernel
theorem dX7_init_1 : decode cX7_init 1 = .ok (.invokespecial 3, 3) := by decide +kernel
theorem dX7_init_4 : decode cX7_init 4 = .ok (.aload_n 0, 1) := by decide +kernel
theorem dX7_init_5 : decode cX7_init 5 = .ok (.bipush 16, 2) := by decide +kernel
theorem dX7_init_7 : decode cX7_init 7 = .ok (.putfield 9, 3) := by decide +kernel
theorem dX7_init_10 : decode cX7_init 10 = .ok (.aload_n 0, 1) := by decide +kernel
theorem dX7_init_11 : decode cX7_init 11 = .ok (.bipush 64, 2) := by decide +kernel
theorem dX7_init_13 : decode cX7_init 13 = .ok (.newarray .int, 2) := by decide +kernel
theorem dX7_init_15 : decode cX7_init 15 = .ok (.putfield 15, 3) := by decide +kernel
theorem dX7_init_18 : decode cX7_init 18 = .ok (.aload_n 0, 1) := by decide +kernel
theorem dX7_init_19 : decode cX7_init 19 = .ok (.bipush 64, 2) := by decide +kernel
theorem dX7_init_21 : decode cX7_init 21 = .ok (.newarray .int, 2) := by decide +kernel
theorem dX7_init_23 : decode cX7_init 23 = .ok (.putfield 19, 3) := by decide +kernel
theorem dX7_init_26 : decode cX7_init 26 = .ok (.aload_n 0, 1) := by decide +kernel
theorem dX7_init_27 : decode cX7_init 27 = .ok (.bipush 64, 2) := by decide +kernel
theorem dX7_init_29 : decode cX7_init 29 = .ok (.newarray .int, 2) := by decide +kernel
theorem dX7_init_31 : decode cX7_init 31 = .ok (.putfield 22, 3) := by decide +kernel
theorem dX7_init_34 : decode cX7_init 34 = .ok (.aload_n 0, 1) := by decide +kernel
theorem dX7_init_35 : decode cX7_init 35 = .ok (.bipush 64, 2) := by decide +kernel
theorem dX7_init_37 : decode cX7_init 37 = .ok (.newarray .int, 2) := by decide +kernel
theorem dX7_init_39 : decode cX7_init 39 = .ok (.putfield 25, 3) := by decide +kernel
theorem dX7_init_42 : decode cX7_init 42 = .ok (.aload_n 0, 1) := by decide +kernel
theorem dX7_init_43 : decode cX7_init 43 = .ok (.bipush 64, 2) := by decide +kernel
theorem dX7_init_45 : decode cX7_init 45 = .ok (.newarray .int, 2) := by decide +kernel
theorem dX7_init_47 : decode cX7_init 47 = .ok (.putfield 28, 3) := by decide +kernel
theorem dX7_init_50 : decode cX7_init 50 = .ok (.aload_n 0, 1) := by decide +kernel
theorem dX7_init_51 : decode cX7_init 51 = .ok (.bipush 64, 2) := by decide +kernel
theorem dX7_init_53 : decode cX7_init 53 = .ok (.newarray .int, 2) := by decide +kernel
theorem dX7_init_55 : decode cX7_init 55 = .ok (.putfield 31, 3) := by decide +kernel
theorem dX7_init_58 : decode cX7_init 58 = .ok (.aload_n 0, 1) := by decide +kernel
theorem dX7_init_59 : decode cX7_init 59 = .ok (.bipush 64, 2) := by decide +kernel
theorem dX7_init_61 : decode cX7_init 61 = .ok (.newarray .int, 2) := by decide +kernel
theorem dX7_init_63 : decode cX7_init 63 = .ok (.putfield 34, 3) := by decide +kernel
theorem dX7_init_66 : decode cX7_init 66 = .ok (.aload_n 0, 1) := by decide +kernel
theorem dX7_init_67 : decode cX7_init 67 = .ok (.bipush 64, 2) := by decide +kernel
theorem dX7_init_69 : decode cX7_init 69 = .ok (.newarray .int, 2) := by decide +kernel
theorem dX7_init_71 : decode cX7_init 71 = .ok (.putfield 37, 3) := by decide +kernel
theorem dX7_init_74 : decode cX7_init 74 = .ok (.aload_n 0, 1) := by decide +kernel
theorem dX7_init_75 : decode cX7_init 75 = .ok (.iconst 2, 1) := by decide +kernel
theorem dX7_init_76 : decode cX7_init 76 = .ok (.newarray .boolean, 2) := by decide +kernel
theorem dX7_init_78 : decode cX7_init 78 = .ok (.putfield 40, 3) := by decide +kernel
theorem dX7_init_81 : decode cX7_init 81 = .ok (.aload_n 0, 1) := by decide +kernel
theorem dX7_init_82 : decode cX7_init 82 = .ok (.iconst 2, 1) := by decide +kernel
theorem dX7_init_83 : decode cX7_init 83 = .ok (.newarray .int, 2) := by decide +kernel
theorem dX7_init_85 : decode cX7_init 85 = .ok (.putfield 44, 3) := by decide +kernel
theorem dX7_init_88 : decode cX7_init 88 = .ok (.aload_n 0, 1) := by decide +kernel
theorem dX7_init_89 : decode cX7_init 89 = .ok (.iconst 2, 1) := by decide +kernel
theorem dX7_init_90 : decode cX7_init 90 = .ok (.newarray .int, 2) := by decide +kernel
theorem dX7_init_92 : decode cX7_init 92 = .ok (.putfield 47, 3) := by decide +kernel
theorem dX7_init_95 : decode cX7_init 95 = .ok (.aload_n 0, 1) := by decide +kernel
theorem dX7_init_96 : decode cX7_init 96 = .ok (.iconst 2, 1) := by decide +kernel
theorem dX7_init_97 : decode cX7_init 97 = .ok (.newarray .int, 2) := by decide +kernel
theorem dX7_init_99 : decode cX7_init 99 = .ok (.putfield 50, 3) := by decide +kernel
theorem dX7_init_102 : decode cX7_init 102 = .ok (.aload_n 0, 1) := by decide +kernel
theorem dX7_init_103 : decode cX7_init 103 = .ok (.bipush 12, 2) := by decide +kernel
theorem dX7_init_105 : decode cX7_init 105 = .ok (.newarray .int, 2) := by decide +kernel
theorem dX7_init_107 : decode cX7_init 107 = .ok (.putfield 53, 3) := by decide +kernel
theorem dX7_init_110 : decode cX7_init 110 = .ok (.aload_n 0, 1) := by decide +kernel
theorem dX7_init_111 : decode cX7_init 111 = .ok (.bipush 12, 2) := by decide +kernel
theorem dX7_init_113 : decode cX7_init 113 = .ok (.newarray .int, 2) := by decide +kernel
theorem dX7_init_115 : decode cX7_init 115 = .ok (.putfield 56, 3) := by decide +kernel
theorem dX7_init_118 : decode cX7_init 118 = .ok (.aload_n 0, 1) := by decide +kernel
theorem dX7_init_119 : decode cX7_init 119 = .ok (.bipush 64, 2) := by decide +kernel
theorem dX7_init_121 : decode cX7_init 121 = .ok (.putfield 59, 3) := by decide +kernel
theorem dX7_init_124 : decode cX7_init 124 = .ok (.aload_n 0, 1) := by decide +kernel
theorem dX7_init_125 : decode cX7_init 125 = .ok (.iconst (-1), 1) := by decide +kernel
theorem dX7_init_126 : decode cX7_init 126 = .ok (.putfield 62, 3) := by decide +kernel
theorem dX7_init_129 : decode cX7_init 129 = .ok (.aload_n 0, 1) := by decide +kernel
theorem dX7_init_130 : decode cX7_init 130 = .ok (.iconst 0, 1) := by decide +kernel
theorem dX7_init_131 : decode cX7_init 131 = .ok (.putfield 65, 3) := by decide +kernel
theorem dX7_init_134 : decode cX7_init 134 = .ok (.iconst 0, 1) := by decide +kernel
theorem dX7_init_135 : decode cX7_init 135 = .ok (.istore_n 1, 1) := by decide +kernel
theorem dX7_init_136 : decode cX7_init 136 = .ok (.iload_n 1, 1) := by decide +kernel
theorem dX7_init_137 : decode cX7_init 137 = .ok (.bipush 12, 2) := by decide +kernel
theorem dX7_init_139 : decode cX7_init 139 = .ok (.if_icmp .ge 23, 3) := by decide +kernel
theorem dX7_init_142 : decode cX7_init 142 = .ok (.aload_n 0, 1) := by decide +kernel
theorem dX7_init_143 : decode cX7_init 143 = .ok (.getfield 53, 3) := by decide +kernel
theorem dX7_init_146 : decode cX7_init 146 = .ok (.iload_n 1, 1) := by decide +kernel
theorem dX7_init_147 : decode cX7_init 147 = .ok (.iconst (-1), 1) := by decide +kernel
theorem dX7_init_148 : decode cX7_init 148 = .ok (.iastore, 1) := by decide +kernel
theorem dX7_init_149 : decode cX7_init 149 = .ok (.aload_n 0, 1) := by decide +kernel
theorem dX7_init_150 : decode cX7_init 150 = .ok (.getfield 56, 3) := by decide +kernel
theorem dX7_init_153 : decode cX7_init 153 = .ok (.iload_n 1, 1) := by decide +kernel
theorem dX7_init_154 : decode cX7_init 154 = .ok (.iconst (-1), 1) := by decide +kernel
theorem dX7_init_155 : decode cX7_init 155 = .ok (.iastore, 1) := by decide +kernel
theorem dX7_init_156 : decode cX7_init 156 = .ok (.iinc 1 1, 3) := by decide +kernel
theorem dX7_init_159 : decode cX7_init 159 = .ok (.goto (-23), 3) := by decide +kernel
theorem dX7_init_162 : decode cX7_init 162 = .ok (.aload_n 0, 1) := by decide +kernel
theorem dX7_init_163 : decode cX7_init 163 = .ok (.bipush 16, 2) := by decide +kernel
theorem dX7_init_165 : decode cX7_init 165 = .ok (.invokevirtual 68, 3) := by decide +kernel
theorem dX7_init_168 : decode cX7_init 168 = .ok (.return_, 1) := by decide +kernel
def md_X7_init_tail : List (Nat × Nat) := [(6, 0), (118, 0), (119, 0), (120, 0), (121, 0), (122, 0), (123, 0), (124, 0), (127, 0), (128, 0), (210, 0)]
set_option maxRecDepth 100000 in
set_option maxHeartbeats 4000000 in
theorem t_X7_init {X : q_X} (τ : q_T) (σ : q_V) (a0 : Nat) (hI : q_I τ σ) (tA0 : τ a0 = some (6, 1)) (hG : q_G X cX7_init "WhiteLine$Road" 2 none 2 44 14 544) (kk : ∀ σ1 : q_V, q_S md_X7_init_tail τ σ σ1 → (fx_N σ1 = f_X7_init_tail (fx_N σ) a0 ∧ σ1 a0 0 = .int 16 ∧ (∀ b : Nat, b ≠ a0 → τ b = some (6, 1) → σ1 b 0 = σ b 0) ∧ ∀ c0 c1 c2 : Nat, σ a0 1 = .ref c0 → σ a0 2 = .ref c1 → σ a0 3 = .ref c2 → zz_rx τ σ σ1 c0 c1 c2 ∧ zz_rz σ1 c0 c1 c2 64) → q_O X 14 544 τ σ1 168 [(0, .ref a0)] []) : q_O X 14 544 τ σ 134 [(0, .ref a0)] [] := by
  have hS0 : q_S md_X7_init_tail τ σ σ := q_S.rf hI
  obtain ⟨Fv, hF⟩ : ∃ z, fx_eq z (f_X7_init_tail (fx_N σ) a0) := ⟨_, fx_rf⟩
  have hF0 := hF
  unfold f_X7_init_tail at hF
  refine q_iconst (pc := 134) hG dX7_init_134 ki_0 ?_
  refine q_istore_n (pc := 135) [(1, .int 0), (0, .ref a0)] hG dX7_init_135 (by decide) rfl ?_
  have J136 : ∀ (n136 : Nat) (p136_1 : Int32) (σ136 : q_V), (q_r p136_1 0 12) → (q_S md_X7_init_tail τ σ σ136) → ((∀ b : Nat, b ≠ a0 → τ b = some (6, 1) → σ136 b 0 = σ b 0) ∧ ∀ c : Nat, τ c = some (118, 64) → σ136 c = σ c) → (fx_eq Fv (kL_X7_init_tail_136 a0 n136 p136_1.toInt (fx_N σ136))) → ((12 - p136_1.toInt).toNat < n136) → q_O X 14 544 τ σ136 136 [(0, .ref a0), (1, .int p136_1)] [] := by
    intro n136
    induction n136 with
    | zero => intro p136_1 σ136 r136_1 hS136 iF136 hF hm136; exact absurd hm136 (Nat.not_lt_zero _)
    | succ n136 ih136 =>
      intro p136_1 σ136 r136_1 hS136 iF136 hF hm136
      replace hF := (show fx_eq Fv (kB_X7_init_tail_136 (kL_X7_init_tail_136 a0 n136) a0 p136_1.toInt (fx_N σ136)) from hF)
      unfold kB_X7_init_tail_136 at hF
      refine q_iload_n (pc := 136) hG dX7_init_136 1 rfl ?_
      refine q_bipush (pc := 137) hG dX7_init_137 kb_12 ?_
      refine q_icmp_ge (pc := 139) hG 162 dX7_init_139 rfl ?_ ?_
      · intro c139
        replace hF := fx_lt2 hF rfl tl_12 c139
        refine q_aload_n (pc := 162) hG dX7_init_162 0 rfl ?_
        refine q_bipush (pc := 163) hG dX7_init_163 kb_16 ?_
        refine q_cVv (pc := 165) [.int 16] [] hG (c_X7_layAnew τ σ136 a0 16 hS136.1 tA0 (q_r.mono rl_16 (by decide))) my_X7_layAnew mv_X7_layAnew w80 dX7_init_165 tA0 (by decide) rfl rfl (Nat.le_of_ble_eq_true rfl) (by decide) (fun s165 p165 => ?_)
        have w165 := hS136.trans p165.1 rfl
        have fq165 := p165.2.1
        rewrite [tl_16] at fq165
        replace hF := fx_S hF fq165
        refine q_lv [0] rfl ?_
        exact kk s165 w165 ⟨(fx_end hF hF0), p165.2.2.1, fun b hb hT => (p165.2.2.2.1 b hb hT).trans (iF136.1 b hb hT), fun c0 c1 c2 h0 h1 h2 => ⟨fun c hc n0 n1 n2 => ((p165.2.2.2.2 c0 c1 c2 (hS136.same tA0 rfl h0) (hS136.same tA0 rfl h1) (hS136.same tA0 rfl h2)).1 c hc n0 n1 n2).trans (iF136.2 c hc), (p165.2.2.2.2 c0 c1 c2 (hS136.same tA0 rfl h0) (hS136.same tA0 rfl h1) (hS136.same tA0 rfl h2)).2⟩⟩
      intro c139
      replace hF := fx_lt1 hF rfl tl_12 c139
      refine q_aload_n (pc := 142) hG dX7_init_142 0 rfl ?_
      refine q_getR (pc := 143) (k2 := 127) (n2 := 12) hG fl_X7_53 dX7_init_143 hS136.1 tA0 ff_6_13 (fun b143 f143 T143 => ?_)
      replace hF := fx_R hF f143 rfl
      have f_1 := (hS136.2 _ _ _ _ tA0 rfl).symm.trans f143
      refine q_iload_n (pc := 146) hG dX7_init_146 1 rfl ?_
      refine q_iconst (pc := 147) hG dX7_init_147 ki_m1 ?_
      have r_2 := q_rlt r136_1 rl_12 c139 11 (by decide)
      refine q_iast (pc := 148) hG dX7_init_148 hS136 ai_127 T143 (q_ix r_2 (by decide)) rl_m1 (by decide) rfl (fun s148 u148 w148 => ?_)
      replace hF := fx_P hF u148 rfl tl_m1
      have m148 : s148 b143 p136_1.toInt.toNat = .int (-1) := by rw [u148]; exact q_up_same
      refine q_aload_n (pc := 149) hG dX7_init_149 0 rfl ?_
      refine q_getR (pc := 150) (k2 := 128) (n2 := 12) hG fl_X7_56 dX7_init_150 w148.1 tA0 ff_6_14 (fun b150 f150 T150 => ?_)
      replace hF := fx_R hF f150 rfl
      have f_3 := (w148.2 _ _ _ _ tA0 rfl).symm.trans f150
      refine q_iload_n (pc := 153) hG dX7_init_153 1 rfl ?_
      refine q_iconst (pc := 154) hG dX7_init_154 ki_m1 ?_
      refine q_iast (pc := 155) hG dX7_init_155 w148 ai_128 T150 (q_ix r_2 (by decide)) rl_m1 (by decide) rfl (fun s155 u155 w155 => ?_)
      replace hF := fx_P hF u155 rfl tl_m1
      have m155 : s155 b150 p136_1.toInt.toNat = .int (-1) := by rw [u155]; exact q_up_same
      obtain ⟨v156, e156⟩ : ∃ z : Int32, z = p136_1 + Int32.ofInt 1 := ⟨_, rfl⟩
      have h156 := q_incN (lo := 1) (hi := 12) r_2 (by decide) (by decide) e156
      replace hF := fx_add hF rfl rfl h156.1
      refine q_iinc (pc := 156) [(1, .int v156), (0, .ref a0)] hG dX7_init_156 1 rfl e156 (by decide) rfl ?_
      refine q_goto (pc := 159) 136 hG dX7_init_159 rfl ?_
      refine q_lv [1, 0] rfl ?_
      exact ih136 v156 s155 (q_r.mono h156.2 (by decide)) w155 ⟨(fun b hb hT => by rw [u155, q_keepK hT T150 (by decide), u148, q_keepK hT T143 (by decide)]; exact iF136.1 b hb hT), (fun c hc => (Eq.trans (zz_sP u155 T150 (by decide) hc) (Eq.trans (zz_sP u148 T143 (by decide) hc) (iF136.2 c hc))))⟩ hF (q_measU hm136 (by have o0 := c139; have o1 := h156.1; have o2 := r_2; have o3 := h156.2; have l4 := tl_12; unfold q_r at o2 o3; omega) (h156.2).2)
  refine q_lv [1, 0] rfl ?_
  exact J136 ((12 - (0 : Int32).toInt).toNat + 1) 0 σ (q_r.mono rl_0 (by decide)) hS0 ⟨(fun _ _ _ => rfl), (fun c hc => rfl)⟩ (by rw [tl_0]; exact hF) (Nat.lt_succ_self _)
set_option maxRecDepth 100000 in
set_option maxHeartbeats 4000000 in
theorem c_X7_init {l : Launch} {D : q_D} (τ : q_T) (σ : q_V) (a0 : Nat) (hI : q_I τ σ) (tA0 : τ a0 = some (6, 0)) : q_C l D yX7_init cX7_init 2 none 2 44 14 544 τ σ [.ref a0] q_ev (fun _ τ1 σ1 => (∀ (b : Nat) (x : Nat × Nat), b ≠ a0 → τ b = some x → ∀ i : Nat, fx_N σ1 b i = fx_N σ b i) ∧ q_X1 6 a0 τ σ τ1 σ1 ∧ σ1 a0 0 = .int 16 ∧ (∃ N : Nat → Nat, N 0 = a0 ∧ zw_M τ1 N (fx_N σ1) ∧ ∀ j : Nat, 1 ≤ j → j ≤ 14 → τ (N j) = none) ∧ ∃ c0 c1 c2 : Nat, (σ1 a0 1 = .ref c0 ∧ σ1 a0 2 = .ref c1 ∧ σ1 a0 3 = .ref c2) ∧ (c0 ≠ c1 ∧ c0 ≠ c2 ∧ c1 ≠ c2) ∧ (τ c0 = none ∧ τ c1 = none ∧ τ c2 = none) ∧ zz_rz σ1 c0 c1 c2 64) := by
  refine q_met rfl (Nat.le_of_ble_eq_true rfl) (fun X hG hE hnm => ?_)
  show q_O X 0 0 τ σ 0 [(0, .ref a0)] []
  refine q_aload_n (pc := 0) hG dX7_init_0 0 rfl ?_
  refine q_oin (pc := 1) hG w79 w22 w23 dX7_init_1 ⟨by decide, by decide⟩ (by decide) ?_
  refine q_aload_n (pc := 4) hG dX7_init_4 0 rfl ?_
  refine q_bipush (pc := 5) hG dX7_init_5 kb_16 ?_
  refine q_putV (pc := 7) hG fl_X7_9 dX7_init_7 tA0 rfl rfl ?_
  obtain ⟨σ7, es7⟩ : ∃ t : q_V, t = q_up σ a0 0 (.int 16) := ⟨_, rfl⟩
  rw [← es7]
  have I7 : q_I τ σ7 := by rw [es7]; exact hI.put tA0 (fun hj => absurd (show 0 < 0 from hj) (Nat.not_lt_zero _))
  have F7 : σ7 a0 = updV (σ a0) 0 (.int 16) := by rw [es7, q_upF]
  have x7 : ∀ b, b ≠ a0 → σ7 b = σ b := by rw [es7]; exact fun b hb => q_up_ne hb
  show q_O X 0 0 τ σ7 10 [(0, .ref a0)] []
  refine q_aload_n (pc := 10) hG dX7_init_10 0 rfl ?_
  refine q_bipush (pc := 11) hG dX7_init_11 kb_64 ?_
  refine q_newA (pc := 13) (k := 118) (N := 64) (aty := .int) hG w36 dX7_init_13 ⟨by decide, by decide, rfl⟩ tl_64 (by decide) ⟨by decide, by decide⟩ (fun h13 n13 => ?_)
  obtain ⟨τ13, et13⟩ : ∃ t : q_T, t = q_tu τ h13 (118, 64) := ⟨_, rfl⟩
  obtain ⟨σ13, es13⟩ : ∃ t : q_V, t = q_vu σ7 h13 (fun _ => defaultValue (newarray.typeOf .int)) := ⟨_, rfl⟩
  rw [← et13, ← es13]
  have x13 : q_ex τ σ7 τ13 σ13 := by rw [et13, es13]; exact q_ex.mk n13 (Or.inl (by decide))
  have T13 : τ13 h13 = some (118, 64) := by rw [et13]; exact q_tu_new
  have z13 : σ13 h13 = (fun _ => defaultValue (newarray.typeOf .int)) := by rw [es13]; exact q_vu_new
  have I13 : q_I τ13 σ13 := by rw [et13, es13]; exact q_I.mk I7 n13 (fun j _ => (show q_v _ _ (.int 0) from q_vi (ai_118.2.2 j) rl_0 (by decide)))
  have A13 := x13.1 a0 _ tA0
  have F13 : σ13 a0 = updV (σ a0) 0 (.int 16) := A13.2.trans F7
  have N013 : τ h13 = none := by
    cases hz : τ h13 with
    | none => rfl
    | some z => have q := hz; rw [n13] at q; cases q
  show q_O X 1 64 τ13 σ13 15 [(0, .ref a0)] [.ref h13, .ref a0]
  refine q_putF (pc := 15) hG hnm fl_X7_15 (fun r hr => by cases hr; rfl) dX7_init_15 A13.1 rfl rfl ?_
  obtain ⟨σ15, es15⟩ : ∃ t : q_V, t = q_up σ13 a0 1 (.ref h13) := ⟨_, rfl⟩
  rw [← es15]
  have I15 : q_I τ13 σ15 := by rw [es15]; exact I13.put A13.1 (fun hj => absurd (show 1 < 0 from hj) (Nat.not_lt_zero _))
  have F15 : σ15 a0 = updV (updV (σ a0) 0 (.int 16)) 1 (.ref h13) := by rw [es15, q_upF, F13]
  have x15 : ∀ b, b ≠ a0 → σ15 b = σ13 b := by rw [es15]; exact fun b hb => q_up_ne hb
  show q_O X 1 64 τ13 σ15 18 [(0, .ref a0)] []
  refine q_aload_n (pc := 18) hG dX7_init_18 0 rfl ?_
  refine q_bipush (pc := 19) hG dX7_init_19 kb_64 ?_
  refine q_newA (pc := 21) (k := 118) (N := 64) (aty := .int) hG w36 dX7_init_21 ⟨by decide, by decide, rfl⟩ tl_64 (by decide) ⟨by decide, by decide⟩ (fun h21 n21 => ?_)
  obtain ⟨τ21, et21⟩ : ∃ t : q_T, t = q_tu τ13 h21 (118, 64) := ⟨_, rfl⟩
  obtain ⟨σ21, es21⟩ : ∃ t : q_V, t = q_vu σ15 h21 (fun _ => defaultValue (newarray.typeOf .int)) := ⟨_, rfl⟩
  rw [← et21, ← es21]
  have x21 : q_ex τ13 σ15 τ21 σ21 := by rw [et21, es21]; exact q_ex.mk n21 (Or.inl (by decide))
  have T21 : τ21 h21 = some (118, 64) := by rw [et21]; exact q_tu_new
  have z21 : σ21 h21 = (fun _ => defaultValue (newarray.typeOf .int)) := by rw [es21]; exact q_vu_new
  have I21 : q_I τ21 σ21 := by rw [et21, es21]; exact q_I.mk I15 n21 (fun j _ => (show q_v _ _ (.int 0) from q_vi (ai_118.2.2 j) rl_0 (by decide)))
  have A21 := x21.1 a0 _ A13.1
  have F21 : σ21 a0 = updV (updV (σ a0) 0 (.int 16)) 1 (.ref h13) := A21.2.trans F15
  have NC21_h13 : h13 ≠ h21 := fun e => by have q := n21; rw [← e, T13] at q; cases q
  have N021 : τ h21 = none := by
    cases hz : τ h21 with
    | none => rfl
    | some z => have q := (x13.1 h21 _ hz).1; rw [n21] at q; cases q
  show q_O X 2 128 τ21 σ21 23 [(0, .ref a0)] [.ref h21, .ref a0]
  refine q_putF (pc := 23) hG hnm fl_X7_19 (fun r hr => by cases hr; rfl) dX7_init_23 A21.1 rfl rfl ?_
  obtain ⟨σ23, es23⟩ : ∃ t : q_V, t = q_up σ21 a0 2 (.ref h21) := ⟨_, rfl⟩
  rw [← es23]
  have I23 : q_I τ21 σ23 := by rw [es23]; exact I21.put A21.1 (fun hj => absurd (show 2 < 0 from hj) (Nat.not_lt_zero _))
  have F23 : σ23 a0 = updV (updV (updV (σ a0) 0 (.int 16)) 1 (.ref h13)) 2 (.ref h21) := by rw [es23, q_upF, F21]
  have x23 : ∀ b, b ≠ a0 → σ23 b = σ21 b := by rw [es23]; exact fun b hb => q_up_ne hb
  show q_O X 2 128 τ21 σ23 26 [(0, .ref a0)] []
  refine q_aload_n (pc := 26) hG dX7_init_26 0 rfl ?_
  refine q_bipush (pc := 27) hG dX7_init_27 kb_64 ?_
  refine q_newA (pc := 29) (k := 118) (N := 64) (aty := .int) hG w36 dX7_init_29 ⟨by decide, by decide, rfl⟩ tl_64 (by decide) ⟨by decide, by decide⟩ (fun h29 n29 => ?_)
  obtain ⟨τ29, et29⟩ : ∃ t : q_T, t = q_tu τ21 h29 (118, 64) := ⟨_, rfl⟩
  obtain ⟨σ29, es29⟩ : ∃ t : q_V, t = q_vu σ23 h29 (fun _ => defaultValue (newarray.typeOf .int)) := ⟨_, rfl⟩
  rw [← et29, ← es29]
  have x29 : q_ex τ21 σ23 τ29 σ29 := by rw [et29, es29]; exact q_ex.mk n29 (Or.inl (by decide))
  have T29 : τ29 h29 = some (118, 64) := by rw [et29]; exact q_tu_new
  have z29 : σ29 h29 = (fun _ => defaultValue (newarray.typeOf .int)) := by rw [es29]; exact q_vu_new
  have I29 : q_I τ29 σ29 := by rw [et29, es29]; exact q_I.mk I23 n29 (fun j _ => (show q_v _ _ (.int 0) from q_vi (ai_118.2.2 j) rl_0 (by decide)))
  have A29 := x29.1 a0 _ A21.1
  have F29 : σ29 a0 = updV (updV (updV (σ a0) 0 (.int 16)) 1 (.ref h13)) 2 (.ref h21) := A29.2.trans F23
  have NC29_h13 : h13 ≠ h29 := fun e => by have q := n29; rw [← e, (x21.1 h13 _ T13).1] at q; cases q
  have NC29_h21 : h21 ≠ h29 := fun e => by have q := n29; rw [← e, T21] at q; cases q
  have N029 : τ h29 = none := by
    cases hz : τ h29 with
    | none => rfl
    | some z => have q := (x21.1 h29 _ (x13.1 h29 _ hz).1).1; rw [n29] at q; cases q
  show q_O X 3 192 τ29 σ29 31 [(0, .ref a0)] [.ref h29, .ref a0]
  refine q_putF (pc := 31) hG hnm fl_X7_22 (fun r hr => by cases hr; rfl) dX7_init_31 A29.1 rfl rfl ?_
  obtain ⟨σ31, es31⟩ : ∃ t : q_V, t = q_up σ29 a0 3 (.ref h29) := ⟨_, rfl⟩
  rw [← es31]
  have I31 : q_I τ29 σ31 := by rw [es31]; exact I29.put A29.1 (fun hj => absurd (show 3 < 0 from hj) (Nat.not_lt_zero _))
  have F31 : σ31 a0 = updV (updV (updV (updV (σ a0) 0 (.int 16)) 1 (.ref h13)) 2 (.ref h21)) 3 (.ref h29) := by rw [es31, q_upF, F29]
  have x31 : ∀ b, b ≠ a0 → σ31 b = σ29 b := by rw [es31]; exact fun b hb => q_up_ne hb
  show q_O X 3 192 τ29 σ31 34 [(0, .ref a0)] []
  refine q_aload_n (pc := 34) hG dX7_init_34 0 rfl ?_
  refine q_bipush (pc := 35) hG dX7_init_35 kb_64 ?_
  refine q_newA (pc := 37) (k := 119) (N := 64) (aty := .int) hG w36 dX7_init_37 ⟨by decide, by decide, rfl⟩ tl_64 (by decide) ⟨by decide, by decide⟩ (fun h37 n37 => ?_)
  obtain ⟨τ37, et37⟩ : ∃ t : q_T, t = q_tu τ29 h37 (119, 64) := ⟨_, rfl⟩
  obtain ⟨σ37, es37⟩ : ∃ t : q_V, t = q_vu σ31 h37 (fun _ => defaultValue (newarray.typeOf .int)) := ⟨_, rfl⟩
  rw [← et37, ← es37]
  have x37 : q_ex τ29 σ31 τ37 σ37 := by rw [et37, es37]; exact q_ex.mk n37 (Or.inl (by decide))
  have T37 : τ37 h37 = some (119, 64) := by rw [et37]; exact q_tu_new
  have z37 : σ37 h37 = (fun _ => defaultValue (newarray.typeOf .int)) := by rw [es37]; exact q_vu_new
  have I37 : q_I τ37 σ37 := by rw [et37, es37]; exact q_I.mk I31 n37 (fun j _ => (show q_v _ _ (.int 0) from q_vi (ai_119.2.2 j) rl_0 (by decide)))
  have A37 := x37.1 a0 _ A29.1
  have F37 : σ37 a0 = updV (updV (updV (updV (σ a0) 0 (.int 16)) 1 (.ref h13)) 2 (.ref h21)) 3 (.ref h29) := A37.2.trans F31
  have N037 : τ h37 = none := by
    cases hz : τ h37 with
    | none => rfl
    | some z => have q := (x29.1 h37 _ (x21.1 h37 _ (x13.1 h37 _ hz).1).1).1; rw [n37] at q; cases q
  show q_O X 4 256 τ37 σ37 39 [(0, .ref a0)] [.ref h37, .ref a0]
  refine q_putF (pc := 39) hG hnm fl_X7_25 (fun r hr => by cases hr; rfl) dX7_init_39 A37.1 rfl rfl ?_
  obtain ⟨σ39, es39⟩ : ∃ t : q_V, t = q_up σ37 a0 4 (.ref h37) := ⟨_, rfl⟩
  rw [← es39]
  have I39 : q_I τ37 σ39 := by rw [es39]; exact I37.put A37.1 (fun hj => absurd (show 4 < 0 from hj) (Nat.not_lt_zero _))
  have F39 : σ39 a0 = updV (updV (updV (updV (updV (σ a0) 0 (.int 16)) 1 (.ref h13)) 2 (.ref h21)) 3 (.ref h29)) 4 (.ref h37) := by rw [es39, q_upF, F37]
  have x39 : ∀ b, b ≠ a0 → σ39 b = σ37 b := by rw [es39]; exact fun b hb => q_up_ne hb
  show q_O X 4 256 τ37 σ39 42 [(0, .ref a0)] []
  refine q_aload_n (pc := 42) hG dX7_init_42 0 rfl ?_
  refine q_bipush (pc := 43) hG dX7_init_43 kb_64 ?_
  refine q_newA (pc := 45) (k := 120) (N := 64) (aty := .int) hG w36 dX7_init_45 ⟨by decide, by decide, rfl⟩ tl_64 (by decide) ⟨by decide, by decide⟩ (fun h45 n45 => ?_)
  obtain ⟨τ45, et45⟩ : ∃ t : q_T, t = q_tu τ37 h45 (120, 64) := ⟨_, rfl⟩
  obtain ⟨σ45, es45⟩ : ∃ t : q_V, t = q_vu σ39 h45 (fun _ => defaultValue (newarray.typeOf .int)) := ⟨_, rfl⟩
  rw [← et45, ← es45]
  have x45 : q_ex τ37 σ39 τ45 σ45 := by rw [et45, es45]; exact q_ex.mk n45 (Or.inl (by decide))
  have T45 : τ45 h45 = some (120, 64) := by rw [et45]; exact q_tu_new
  have z45 : σ45 h45 = (fun _ => defaultValue (newarray.typeOf .int)) := by rw [es45]; exact q_vu_new
  have I45 : q_I τ45 σ45 := by rw [et45, es45]; exact q_I.mk I39 n45 (fun j _ => (show q_v _ _ (.int 0) from q_vi (ai_120.2.2 j) rl_0 (by decide)))
  have A45 := x45.1 a0 _ A37.1
  have F45 : σ45 a0 = updV (updV (updV (updV (updV (σ a0) 0 (.int 16)) 1 (.ref h13)) 2 (.ref h21)) 3 (.ref h29)) 4 (.ref h37) := A45.2.trans F39
  have N045 : τ h45 = none := by
    cases hz : τ h45 with
    | none => rfl
    | some z => have q := (x37.1 h45 _ (x29.1 h45 _ (x21.1 h45 _ (x13.1 h45 _ hz).1).1).1).1; rw [n45] at q; cases q
  show q_O X 5 320 τ45 σ45 47 [(0, .ref a0)] [.ref h45, .ref a0]
  refine q_putF (pc := 47) hG hnm fl_X7_28 (fun r hr => by cases hr; rfl) dX7_init_47 A45.1 rfl rfl ?_
  obtain ⟨σ47, es47⟩ : ∃ t : q_V, t = q_up σ45 a0 5 (.ref h45) := ⟨_, rfl⟩
  rw [← es47]
  have I47 : q_I τ45 σ47 := by rw [es47]; exact I45.put A45.1 (fun hj => absurd (show 5 < 0 from hj) (Nat.not_lt_zero _))
  have F47 : σ47 a0 = updV (updV (updV (updV (updV (updV (σ a0) 0 (.int 16)) 1 (.ref h13)) 2 (.ref h21)) 3 (.ref h29)) 4 (.ref h37)) 5 (.ref h45) := by rw [es47, q_upF, F45]
  have x47 : ∀ b, b ≠ a0 → σ47 b = σ45 b := by rw [es47]; exact fun b hb => q_up_ne hb
  show q_O X 5 320 τ45 σ47 50 [(0, .ref a0)] []
  refine q_aload_n (pc := 50) hG dX7_init_50 0 rfl ?_
  refine q_bipush (pc := 51) hG dX7_init_51 kb_64 ?_
  refine q_newA (pc := 53) (k := 121) (N := 64) (aty := .int) hG w36 dX7_init_53 ⟨by decide, by decide, rfl⟩ tl_64 (by decide) ⟨by decide, by decide⟩ (fun h53 n53 => ?_)
  obtain ⟨τ53, et53⟩ : ∃ t : q_T, t = q_tu τ45 h53 (121, 64) := ⟨_, rfl⟩
  obtain ⟨σ53, es53⟩ : ∃ t : q_V, t = q_vu σ47 h53 (fun _ => defaultValue (newarray.typeOf .int)) := ⟨_, rfl⟩
  rw [← et53, ← es53]
  have x53 : q_ex τ45 σ47 τ53 σ53 := by rw [et53, es53]; exact q_ex.mk n53 (Or.inl (by decide))
  have T53 : τ53 h53 = some (121, 64) := by rw [et53]; exact q_tu_new
  have z53 : σ53 h53 = (fun _ => defaultValue (newarray.typeOf .int)) := by rw [es53]; exact q_vu_new
  have I53 : q_I τ53 σ53 := by rw [et53, es53]; exact q_I.mk I47 n53 (fun j _ => (show q_v _ _ (.int 0) from q_vi (ai_121.2.2 j) rl_0 (by decide)))
  have A53 := x53.1 a0 _ A45.1
  have F53 : σ53 a0 = updV (updV (updV (updV (updV (updV (σ a0) 0 (.int 16)) 1 (.ref h13)) 2 (.ref h21)) 3 (.ref h29)) 4 (.ref h37)) 5 (.ref h45) := A53.2.trans F47
  have N053 : τ h53 = none := by
    cases hz : τ h53 with
    | none => rfl
    | some z => have q := (x45.1 h53 _ (x37.1 h53 _ (x29.1 h53 _ (x21.1 h53 _ (x13.1 h53 _ hz).1).1).1).1).1; rw [n53] at q; cases q
  show q_O X 6 384 τ53 σ53 55 [(0, .ref a0)] [.ref h53, .ref a0]
  refine q_putF (pc := 55) hG hnm fl_X7_31 (fun r hr => by cases hr; rfl) dX7_init_55 A53.1 rfl rfl ?_
  obtain ⟨σ55, es55⟩ : ∃ t : q_V, t = q_up σ53 a0 6 (.ref h53) := ⟨_, rfl⟩
  rw [← es55]
  have I55 : q_I τ53 σ55 := by rw [es55]; exact I53.put A53.1 (fun hj => absurd (show 6 < 0 from hj) (Nat.not_lt_zero _))
  have F55 : σ55 a0 = updV (updV (updV (updV (updV (updV (updV (σ a0) 0 (.int 16)) 1 (.ref h13)) 2 (.ref h21)) 3 (.ref h29)) 4 (.ref h37)) 5 (.ref h45)) 6 (.ref h53) := by rw [es55, q_upF, F53]
  have x55 : ∀ b, b ≠ a0 → σ55 b = σ53 b := by rw [es55]; exact fun b hb => q_up_ne hb
  show q_O X 6 384 τ53 σ55 58 [(0, .ref a0)] []
  refine q_aload_n (pc := 58) hG dX7_init_58 0 rfl ?_
  refine q_bipush (pc := 59) hG dX7_init_59 kb_64 ?_
  refine q_newA (pc := 61) (k := 122) (N := 64) (aty := .int) hG w36 dX7_init_61 ⟨by decide, by decide, rfl⟩ tl_64 (by decide) ⟨by decide, by decide⟩ (fun h61 n61 => ?_)
  obtain ⟨τ61, et61⟩ : ∃ t : q_T, t = q_tu τ53 h61 (122, 64) := ⟨_, rfl⟩
  obtain ⟨σ61, es61⟩ : ∃ t : q_V, t = q_vu σ55 h61 (fun _ => defaultValue (newarray.typeOf .int)) := ⟨_, rfl⟩
  rw [← et61, ← es61]
  have x61 : q_ex τ53 σ55 τ61 σ61 := by rw [et61, es61]; exact q_ex.mk n61 (Or.inl (by decide))
  have T61 : τ61 h61 = some (122, 64) := by rw [et61]; exact q_tu_new
  have z61 : σ61 h61 = (fun _ => defaultValue (newarray.typeOf .int)) := by rw [es61]; exact q_vu_new
  have I61 : q_I τ61 σ61 := by rw [et61, es61]; exact q_I.mk I55 n61 (fun j _ => (show q_v _ _ (.int 0) from q_vi (ai_122.2.2 j) rl_0 (by decide)))
  have A61 := x61.1 a0 _ A53.1
  have F61 : σ61 a0 = updV (updV (updV (updV (updV (updV (updV (σ a0) 0 (.int 16)) 1 (.ref h13)) 2 (.ref h21)) 3 (.ref h29)) 4 (.ref h37)) 5 (.ref h45)) 6 (.ref h53) := A61.2.trans F55
  have N061 : τ h61 = none := by
    cases hz : τ h61 with
    | none => rfl
    | some z => have q := (x53.1 h61 _ (x45.1 h61 _ (x37.1 h61 _ (x29.1 h61 _ (x21.1 h61 _ (x13.1 h61 _ hz).1).1).1).1).1).1; rw [n61] at q; cases q
  show q_O X 7 448 τ61 σ61 63 [(0, .ref a0)] [.ref h61, .ref a0]
  refine q_putF (pc := 63) hG hnm fl_X7_34 (fun r hr => by cases hr; rfl) dX7_init_63 A61.1 rfl rfl ?_
  obtain ⟨σ63, es63⟩ : ∃ t : q_V, t = q_up σ61 a0 7 (.ref h61) := ⟨_, rfl⟩
  rw [← es63]
  have I63 : q_I τ61 σ63 := by rw [es63]; exact I61.put A61.1 (fun hj => absurd (show 7 < 0 from hj) (Nat.not_lt_zero _))
  have F63 : σ63 a0 = updV (updV (updV (updV (updV (updV (updV (updV (σ a0) 0 (.int 16)) 1 (.ref h13)) 2 (.ref h21)) 3 (.ref h29)) 4 (.ref h37)) 5 (.ref h45)) 6 (.ref h53)) 7 (.ref h61) := by rw [es63, q_upF, F61]
  have x63 : ∀ b, b ≠ a0 → σ63 b = σ61 b := by rw [es63]; exact fun b hb => q_up_ne hb
  show q_O X 7 448 τ61 σ63 66 [(0, .ref a0)] []
  refine q_aload_n (pc := 66) hG dX7_init_66 0 rfl ?_
  refine q_bipush (pc := 67) hG dX7_init_67 kb_64 ?_
  refine q_newA (pc := 69) (k := 123) (N := 64) (aty := .int) hG w36 dX7_init_69 ⟨by decide, by decide, rfl⟩ tl_64 (by decide) ⟨by decide, by decide⟩ (fun h69 n69 => ?_)
  obtain ⟨τ69, et69⟩ : ∃ t : q_T, t = q_tu τ61 h69 (123, 64) := ⟨_, rfl⟩
  obtain ⟨σ69, es69⟩ : ∃ t : q_V, t = q_vu σ63 h69 (fun _ => defaultValue (newarray.typeOf .int)) := ⟨_, rfl⟩
  rw [← et69, ← es69]
  have x69 : q_ex τ61 σ63 τ69 σ69 := by rw [et69, es69]; exact q_ex.mk n69 (Or.inl (by decide))
  have T69 : τ69 h69 = some (123, 64) := by rw [et69]; exact q_tu_new
  have z69 : σ69 h69 = (fun _ => defaultValue (newarray.typeOf .int)) := by rw [es69]; exact q_vu_new
  have I69 : q_I τ69 σ69 := by rw [et69, es69]; exact q_I.mk I63 n69 (fun j _ => (show q_v _ _ (.int 0) from q_vi (ai_123.2.2 j) rl_0 (by decide)))
  have A69 := x69.1 a0 _ A61.1
  have F69 : σ69 a0 = updV (updV (updV (updV (updV (updV (updV (updV (σ a0) 0 (.int 16)) 1 (.ref h13)) 2 (.ref h21)) 3 (.ref h29)) 4 (.ref h37)) 5 (.ref h45)) 6 (.ref h53)) 7 (.ref h61) := A69.2.trans F63
  have N069 : τ h69 = none := by
    cases hz : τ h69 with
    | none => rfl
    | some z => have q := (x61.1 h69 _ (x53.1 h69 _ (x45.1 h69 _ (x37.1 h69 _ (x29.1 h69 _ (x21.1 h69 _ (x13.1 h69 _ hz).1).1).1).1).1).1).1; rw [n69] at q; cases q
  show q_O X 8 512 τ69 σ69 71 [(0, .ref a0)] [.ref h69, .ref a0]
  refine q_putF (pc := 71) hG hnm fl_X7_37 (fun r hr => by cases hr; rfl) dX7_init_71 A69.1 rfl rfl ?_
  obtain ⟨σ71, es71⟩ : ∃ t : q_V, t = q_up σ69 a0 8 (.ref h69) := ⟨_, rfl⟩
  rw [← es71]
  have I71 : q_I τ69 σ71 := by rw [es71]; exact I69.put A69.1 (fun hj => absurd (show 8 < 0 from hj) (Nat.not_lt_zero _))
  have F71 : σ71 a0 = updV (updV (updV (updV (updV (updV (updV (updV (updV (σ a0) 0 (.int 16)) 1 (.ref h13)) 2 (.ref h21)) 3 (.ref h29)) 4 (.ref h37)) 5 (.ref h45)) 6 (.ref h53)) 7 (.ref h61)) 8 (.ref h69) := by rw [es71, q_upF, F69]
  have x71 : ∀ b, b ≠ a0 → σ71 b = σ69 b := by rw [es71]; exact fun b hb => q_up_ne hb
  show q_O X 8 512 τ69 σ71 74 [(0, .ref a0)] []
  refine q_aload_n (pc := 74) hG dX7_init_74 0 rfl ?_
  refine q_iconst (pc := 75) hG dX7_init_75 ki_2 ?_
  refine q_newA (pc := 76) (k := 210) (N := 2) (aty := .boolean) hG w155 dX7_init_76 ⟨by decide, by decide, rfl⟩ tl_2 (by decide) ⟨by decide, by decide⟩ (fun h76 n76 => ?_)
  obtain ⟨τ76, et76⟩ : ∃ t : q_T, t = q_tu τ69 h76 (210, 2) := ⟨_, rfl⟩
  obtain ⟨σ76, es76⟩ : ∃ t : q_V, t = q_vu σ71 h76 (fun _ => defaultValue (newarray.typeOf .boolean)) := ⟨_, rfl⟩
  rw [← et76, ← es76]
  have x76 : q_ex τ69 σ71 τ76 σ76 := by rw [et76, es76]; exact q_ex.mk n76 (Or.inl (by decide))
  have T76 : τ76 h76 = some (210, 2) := by rw [et76]; exact q_tu_new
  have z76 : σ76 h76 = (fun _ => defaultValue (newarray.typeOf .boolean)) := by rw [es76]; exact q_vu_new
  have I76 : q_I τ76 σ76 := by rw [et76, es76]; exact q_I.mk I71 n76 (fun j _ => (show q_v _ _ (.int 0) from q_vi (ai_210.2.2 j) rl_0 (by decide)))
  have A76 := x76.1 a0 _ A69.1
  have F76 : σ76 a0 = updV (updV (updV (updV (updV (updV (updV (updV (updV (σ a0) 0 (.int 16)) 1 (.ref h13)) 2 (.ref h21)) 3 (.ref h29)) 4 (.ref h37)) 5 (.ref h45)) 6 (.ref h53)) 7 (.ref h61)) 8 (.ref h69) := A76.2.trans F71
  have N076 : τ h76 = none := by
    cases hz : τ h76 with
    | none => rfl
    | some z => have q := (x69.1 h76 _ (x61.1 h76 _ (x53.1 h76 _ (x45.1 h76 _ (x37.1 h76 _ (x29.1 h76 _ (x21.1 h76 _ (x13.1 h76 _ hz).1).1).1).1).1).1).1).1; rw [n76] at q; cases q
  show q_O X 9 514 τ76 σ76 78 [(0, .ref a0)] [.ref h76, .ref a0]
  refine q_putF (pc := 78) hG hnm fl_X7_40 (fun r hr => by cases hr; rfl) dX7_init_78 A76.1 rfl rfl ?_
  obtain ⟨σ78, es78⟩ : ∃ t : q_V, t = q_up σ76 a0 9 (.ref h76) := ⟨_, rfl⟩
  rw [← es78]
  have I78 : q_I τ76 σ78 := by rw [es78]; exact I76.put A76.1 (fun hj => absurd (show 9 < 0 from hj) (Nat.not_lt_zero _))
  have F78 : σ78 a0 = updV (updV (updV (updV (updV (updV (updV (updV (updV (updV (σ a0) 0 (.int 16)) 1 (.ref h13)) 2 (.ref h21)) 3 (.ref h29)) 4 (.ref h37)) 5 (.ref h45)) 6 (.ref h53)) 7 (.ref h61)) 8 (.ref h69)) 9 (.ref h76) := by rw [es78, q_upF, F76]
  have x78 : ∀ b, b ≠ a0 → σ78 b = σ76 b := by rw [es78]; exact fun b hb => q_up_ne hb
  show q_O X 9 514 τ76 σ78 81 [(0, .ref a0)] []
  refine q_aload_n (pc := 81) hG dX7_init_81 0 rfl ?_
  refine q_iconst (pc := 82) hG dX7_init_82 ki_2 ?_
  refine q_newA (pc := 83) (k := 124) (N := 2) (aty := .int) hG w36 dX7_init_83 ⟨by decide, by decide, rfl⟩ tl_2 (by decide) ⟨by decide, by decide⟩ (fun h83 n83 => ?_)
  obtain ⟨τ83, et83⟩ : ∃ t : q_T, t = q_tu τ76 h83 (124, 2) := ⟨_, rfl⟩
  obtain ⟨σ83, es83⟩ : ∃ t : q_V, t = q_vu σ78 h83 (fun _ => defaultValue (newarray.typeOf .int)) := ⟨_, rfl⟩
  rw [← et83, ← es83]
  have x83 : q_ex τ76 σ78 τ83 σ83 := by rw [et83, es83]; exact q_ex.mk n83 (Or.inl (by decide))
  have T83 : τ83 h83 = some (124, 2) := by rw [et83]; exact q_tu_new
  have z83 : σ83 h83 = (fun _ => defaultValue (newarray.typeOf .int)) := by rw [es83]; exact q_vu_new
  have I83 : q_I τ83 σ83 := by rw [et83, es83]; exact q_I.mk I78 n83 (fun j _ => (show q_v _ _ (.int 0) from q_vi (ai_124.2.2 j) rl_0 (by decide)))
  have A83 := x83.1 a0 _ A76.1
  have F83 : σ83 a0 = updV (updV (updV (updV (updV (updV (updV (updV (updV (updV (σ a0) 0 (.int 16)) 1 (.ref h13)) 2 (.ref h21)) 3 (.ref h29)) 4 (.ref h37)) 5 (.ref h45)) 6 (.ref h53)) 7 (.ref h61)) 8 (.ref h69)) 9 (.ref h76) := A83.2.trans F78
  have N083 : τ h83 = none := by
    cases hz : τ h83 with
    | none => rfl
    | some z => have q := (x76.1 h83 _ (x69.1 h83 _ (x61.1 h83 _ (x53.1 h83 _ (x45.1 h83 _ (x37.1 h83 _ (x29.1 h83 _ (x21.1 h83 _ (x13.1 h83 _ hz).1).1).1).1).1).1).1).1).1; rw [n83] at q; cases q
  show q_O X 10 516 τ83 σ83 85 [(0, .ref a0)] [.ref h83, .ref a0]
  refine q_putF (pc := 85) hG hnm fl_X7_44 (fun r hr => by cases hr; rfl) dX7_init_85 A83.1 rfl rfl ?_
  obtain ⟨σ85, es85⟩ : ∃ t : q_V, t = q_up σ83 a0 10 (.ref h83) := ⟨_, rfl⟩
  rw [← es85]
  have I85 : q_I τ83 σ85 := by rw [es85]; exact I83.put A83.1 (fun hj => absurd (show 10 < 0 from hj) (Nat.not_lt_zero _))
  have F85 : σ85 a0 = updV (updV (updV (updV (updV (updV (updV (updV (updV (updV (updV (σ a0) 0 (.int 16)) 1 (.ref h13)) 2 (.ref h21)) 3 (.ref h29)) 4 (.ref h37)) 5 (.ref h45)) 6 (.ref h53)) 7 (.ref h61)) 8 (.ref h69)) 9 (.ref h76)) 10 (.ref h83) := by rw [es85, q_upF, F83]
  have x85 : ∀ b, b ≠ a0 → σ85 b = σ83 b := by rw [es85]; exact fun b hb => q_up_ne hb
  show q_O X 10 516 τ83 σ85 88 [(0, .ref a0)] []
  refine q_aload_n (pc := 88) hG dX7_init_88 0 rfl ?_
  refine q_iconst (pc := 89) hG dX7_init_89 ki_2 ?_
  refine q_newA (pc := 90) (k := 125) (N := 2) (aty := .int) hG w36 dX7_init_90 ⟨by decide, by decide, rfl⟩ tl_2 (by decide) ⟨by decide, by decide⟩ (fun h90 n90 => ?_)
  obtain ⟨τ90, et90⟩ : ∃ t : q_T, t = q_tu τ83 h90 (125, 2) := ⟨_, rfl⟩
  obtain ⟨σ90, es90⟩ : ∃ t : q_V, t = q_vu σ85 h90 (fun _ => defaultValue (newarray.typeOf .int)) := ⟨_, rfl⟩
  rw [← et90, ← es90]
  have x90 : q_ex τ83 σ85 τ90 σ90 := by rw [et90, es90]; exact q_ex.mk n90 (Or.inl (by decide))
  have T90 : τ90 h90 = some (125, 2) := by rw [et90]; exact q_tu_new
  have z90 : σ90 h90 = (fun _ => defaultValue (newarray.typeOf .int)) := by rw [es90]; exact q_vu_new
  have I90 : q_I τ90 σ90 := by rw [et90, es90]; exact q_I.mk I85 n90 (fun j _ => (show q_v _ _ (.int 0) from q_vi (ai_125.2.2 j) rl_0 (by decide)))
  have A90 := x90.1 a0 _ A83.1
  have F90 : σ90 a0 = updV (updV (updV (updV (updV (updV (updV (updV (updV (updV (updV (σ a0) 0 (.int 16)) 1 (.ref h13)) 2 (.ref h21)) 3 (.ref h29)) 4 (.ref h37)) 5 (.ref h45)) 6 (.ref h53)) 7 (.ref h61)) 8 (.ref h69)) 9 (.ref h76)) 10 (.ref h83) := A90.2.trans F85
  have N090 : τ h90 = none := by
    cases hz : τ h90 with
    | none => rfl
    | some z => have q := (x83.1 h90 _ (x76.1 h90 _ (x69.1 h90 _ (x61.1 h90 _ (x53.1 h90 _ (x45.1 h90 _ (x37.1 h90 _ (x29.1 h90 _ (x21.1 h90 _ (x13.1 h90 _ hz).1).1).1).1).1).1).1).1).1).1; rw [n90] at q; cases q
  show q_O X 11 518 τ90 σ90 92 [(0, .ref a0)] [.ref h90, .ref a0]
  refine q_putF (pc := 92) hG hnm fl_X7_47 (fun r hr => by cases hr; rfl) dX7_init_92 A90.1 rfl rfl ?_
  obtain ⟨σ92, es92⟩ : ∃ t : q_V, t = q_up σ90 a0 11 (.ref h90) := ⟨_, rfl⟩
  rw [← es92]
  have I92 : q_I τ90 σ92 := by rw [es92]; exact I90.put A90.1 (fun hj => absurd (show 11 < 0 from hj) (Nat.not_lt_zero _))
  have F92 : σ92 a0 = updV (updV (updV (updV (updV (updV (updV (updV (updV (updV (updV (updV (σ a0) 0 (.int 16)) 1 (.ref h13)) 2 (.ref h21)) 3 (.ref h29)) 4 (.ref h37)) 5 (.ref h45)) 6 (.ref h53)) 7 (.ref h61)) 8 (.ref h69)) 9 (.ref h76)) 10 (.ref h83)) 11 (.ref h90) := by rw [es92, q_upF, F90]
  have x92 : ∀ b, b ≠ a0 → σ92 b = σ90 b := by rw [es92]; exact fun b hb => q_up_ne hb
  show q_O X 11 518 τ90 σ92 95 [(0, .ref a0)] []
  refine q_aload_n (pc := 95) hG dX7_init_95 0 rfl ?_
  refine q_iconst (pc := 96) hG dX7_init_96 ki_2 ?_
  refine q_newA (pc := 97) (k := 126) (N := 2) (aty := .int) hG w36 dX7_init_97 ⟨by decide, by decide, rfl⟩ tl_2 (by decide) ⟨by decide, by decide⟩ (fun h97 n97 => ?_)
  obtain ⟨τ97, et97⟩ : ∃ t : q_T, t = q_tu τ90 h97 (126, 2) := ⟨_, rfl⟩
  obtain ⟨σ97, es97⟩ : ∃ t : q_V, t = q_vu σ92 h97 (fun _ => defaultValue (newarray.typeOf .int)) := ⟨_, rfl⟩
  rw [← et97, ← es97]
  have x97 : q_ex τ90 σ92 τ97 σ97 := by rw [et97, es97]; exact q_ex.mk n97 (Or.inl (by decide))
  have T97 : τ97 h97 = some (126, 2) := by rw [et97]; exact q_tu_new
  have z97 : σ97 h97 = (fun _ => defaultValue (newarray.typeOf .int)) := by rw [es97]; exact q_vu_new
  have I97 : q_I τ97 σ97 := by rw [et97, es97]; exact q_I.mk I92 n97 (fun j _ => (show q_v _ _ (.int 0) from q_vi (ai_126.2.2 j) rl_0 (by decide)))
  have A97 := x97.1 a0 _ A90.1
  have F97 : σ97 a0 = updV (updV (updV (updV (updV (updV (updV (updV (updV (updV (updV (updV (σ a0) 0 (.int 16)) 1 (.ref h13)) 2 (.ref h21)) 3 (.ref h29)) 4 (.ref h37)) 5 (.ref h45)) 6 (.ref h53)) 7 (.ref h61)) 8 (.ref h69)) 9 (.ref h76)) 10 (.ref h83)) 11 (.ref h90) := A97.2.trans F92
  have N097 : τ h97 = none := by
    cases hz : τ h97 with
    | none => rfl
    | some z => have q := (x90.1 h97 _ (x83.1 h97 _ (x76.1 h97 _ (x69.1 h97 _ (x61.1 h97 _ (x53.1 h97 _ (x45.1 h97 _ (x37.1 h97 _ (x29.1 h97 _ (x21.1 h97 _ (x13.1 h97 _ hz).1).1).1).1).1).1).1).1).1).1).1; rw [n97] at q; cases q
  show q_O X 12 520 τ97 σ97 99 [(0, .ref a0)] [.ref h97, .ref a0]
  refine q_putF (pc := 99) hG hnm fl_X7_50 (fun r hr => by cases hr; rfl) dX7_init_99 A97.1 rfl rfl ?_
  obtain ⟨σ99, es99⟩ : ∃ t : q_V, t = q_up σ97 a0 12 (.ref h97) := ⟨_, rfl⟩
  rw [← es99]
  have I99 : q_I τ97 σ99 := by rw [es99]; exact I97.put A97.1 (fun hj => absurd (show 12 < 0 from hj) (Nat.not_lt_zero _))
  have F99 : σ99 a0 = updV (updV (updV (updV (updV (updV (updV (updV (updV (updV (updV (updV (updV (σ a0) 0 (.int 16)) 1 (.ref h13)) 2 (.ref h21)) 3 (.ref h29)) 4 (.ref h37)) 5 (.ref h45)) 6 (.ref h53)) 7 (.ref h61)) 8 (.ref h69)) 9 (.ref h76)) 10 (.ref h83)) 11 (.ref h90)) 12 (.ref h97) := by rw [es99, q_upF, F97]
  have x99 : ∀ b, b ≠ a0 → σ99 b = σ97 b := by rw [es99]; exact fun b hb => q_up_ne hb
  show q_O X 12 520 τ97 σ99 102 [(0, .ref a0)] []
  refine q_aload_n (pc := 102) hG dX7_init_102 0 rfl ?_
  refine q_bipush (pc := 103) hG dX7_init_103 kb_12 ?_
  refine q_newA (pc := 105) (k := 127) (N := 12) (aty := .int) hG w36 dX7_init_105 ⟨by decide, by decide, rfl⟩ tl_12 (by decide) ⟨by decide, by decide⟩ (fun h105 n105 => ?_)
  obtain ⟨τ105, et105⟩ : ∃ t : q_T, t = q_tu τ97 h105 (127, 12) := ⟨_, rfl⟩
  obtain ⟨σ105, es105⟩ : ∃ t : q_V, t = q_vu σ99 h105 (fun _ => defaultValue (newarray.typeOf .int)) := ⟨_, rfl⟩
  rw [← et105, ← es105]
  have x105 : q_ex τ97 σ99 τ105 σ105 := by rw [et105, es105]; exact q_ex.mk n105 (Or.inl (by decide))
  have T105 : τ105 h105 = some (127, 12) := by rw [et105]; exact q_tu_new
  have z105 : σ105 h105 = (fun _ => defaultValue (newarray.typeOf .int)) := by rw [es105]; exact q_vu_new
  have I105 : q_I τ105 σ105 := by rw [et105, es105]; exact q_I.mk I99 n105 (fun j _ => (show q_v _ _ (.int 0) from q_vi (ai_127.2.2 j) rl_0 (by decide)))
  have A105 := x105.1 a0 _ A97.1
  have F105 : σ105 a0 = updV (updV (updV (updV (updV (updV (updV (updV (updV (updV (updV (updV (updV (σ a0) 0 (.int 16)) 1 (.ref h13)) 2 (.ref h21)) 3 (.ref h29)) 4 (.ref h37)) 5 (.ref h45)) 6 (.ref h53)) 7 (.ref h61)) 8 (.ref h69)) 9 (.ref h76)) 10 (.ref h83)) 11 (.ref h90)) 12 (.ref h97) := A105.2.trans F99
  have N0105 : τ h105 = none := by
    cases hz : τ h105 with
    | none => rfl
    | some z => have q := (x97.1 h105 _ (x90.1 h105 _ (x83.1 h105 _ (x76.1 h105 _ (x69.1 h105 _ (x61.1 h105 _ (x53.1 h105 _ (x45.1 h105 _ (x37.1 h105 _ (x29.1 h105 _ (x21.1 h105 _ (x13.1 h105 _ hz).1).1).1).1).1).1).1).1).1).1).1).1; rw [n105] at q; cases q
  show q_O X 13 532 τ105 σ105 107 [(0, .ref a0)] [.ref h105, .ref a0]
  refine q_putF (pc := 107) hG hnm fl_X7_53 (fun r hr => by cases hr; rfl) dX7_init_107 A105.1 rfl rfl ?_
  obtain ⟨σ107, es107⟩ : ∃ t : q_V, t = q_up σ105 a0 13 (.ref h105) := ⟨_, rfl⟩
  rw [← es107]
  have I107 : q_I τ105 σ107 := by rw [es107]; exact I105.put A105.1 (fun hj => absurd (show 13 < 0 from hj) (Nat.not_lt_zero _))
  have F107 : σ107 a0 = updV (updV (updV (updV (updV (updV (updV (updV (updV (updV (updV (updV (updV (updV (σ a0) 0 (.int 16)) 1 (.ref h13)) 2 (.ref h21)) 3 (.ref h29)) 4 (.ref h37)) 5 (.ref h45)) 6 (.ref h53)) 7 (.ref h61)) 8 (.ref h69)) 9 (.ref h76)) 10 (.ref h83)) 11 (.ref h90)) 12 (.ref h97)) 13 (.ref h105) := by rw [es107, q_upF, F105]
  have x107 : ∀ b, b ≠ a0 → σ107 b = σ105 b := by rw [es107]; exact fun b hb => q_up_ne hb
  show q_O X 13 532 τ105 σ107 110 [(0, .ref a0)] []
  refine q_aload_n (pc := 110) hG dX7_init_110 0 rfl ?_
  refine q_bipush (pc := 111) hG dX7_init_111 kb_12 ?_
  refine q_newA (pc := 113) (k := 128) (N := 12) (aty := .int) hG w36 dX7_init_113 ⟨by decide, by decide, rfl⟩ tl_12 (by decide) ⟨by decide, by decide⟩ (fun h113 n113 => ?_)
  obtain ⟨τ113, et113⟩ : ∃ t : q_T, t = q_tu τ105 h113 (128, 12) := ⟨_, rfl⟩
  obtain ⟨σ113, es113⟩ : ∃ t : q_V, t = q_vu σ107 h113 (fun _ => defaultValue (newarray.typeOf .int)) := ⟨_, rfl⟩
  rw [← et113, ← es113]
  have x113 : q_ex τ105 σ107 τ113 σ113 := by rw [et113, es113]; exact q_ex.mk n113 (Or.inl (by decide))
  have T113 : τ113 h113 = some (128, 12) := by rw [et113]; exact q_tu_new
  have z113 : σ113 h113 = (fun _ => defaultValue (newarray.typeOf .int)) := by rw [es113]; exact q_vu_new
  have I113 : q_I τ113 σ113 := by rw [et113, es113]; exact q_I.mk I107 n113 (fun j _ => (show q_v _ _ (.int 0) from q_vi (ai_128.2.2 j) rl_0 (by decide)))
  have A113 := x113.1 a0 _ A105.1
  have F113 : σ113 a0 = updV (updV (updV (updV (updV (updV (updV (updV (updV (updV (updV (updV (updV (updV (σ a0) 0 (.int 16)) 1 (.ref h13)) 2 (.ref h21)) 3 (.ref h29)) 4 (.ref h37)) 5 (.ref h45)) 6 (.ref h53)) 7 (.ref h61)) 8 (.ref h69)) 9 (.ref h76)) 10 (.ref h83)) 11 (.ref h90)) 12 (.ref h97)) 13 (.ref h105) := A113.2.trans F107
  have N0113 : τ h113 = none := by
    cases hz : τ h113 with
    | none => rfl
    | some z => have q := (x105.1 h113 _ (x97.1 h113 _ (x90.1 h113 _ (x83.1 h113 _ (x76.1 h113 _ (x69.1 h113 _ (x61.1 h113 _ (x53.1 h113 _ (x45.1 h113 _ (x37.1 h113 _ (x29.1 h113 _ (x21.1 h113 _ (x13.1 h113 _ hz).1).1).1).1).1).1).1).1).1).1).1).1).1; rw [n113] at q; cases q
  show q_O X 14 544 τ113 σ113 115 [(0, .ref a0)] [.ref h113, .ref a0]
  refine q_putF (pc := 115) hG hnm fl_X7_56 (fun r hr => by cases hr; rfl) dX7_init_115 A113.1 rfl rfl ?_
  obtain ⟨σ115, es115⟩ : ∃ t : q_V, t = q_up σ113 a0 14 (.ref h113) := ⟨_, rfl⟩
  rw [← es115]
  have I115 : q_I τ113 σ115 := by rw [es115]; exact I113.put A113.1 (fun hj => absurd (show 14 < 0 from hj) (Nat.not_lt_zero _))
  have F115 : σ115 a0 = updV (updV (updV (updV (updV (updV (updV (updV (updV (updV (updV (updV (updV (updV (updV (σ a0) 0 (.int 16)) 1 (.ref h13)) 2 (.ref h21)) 3 (.ref h29)) 4 (.ref h37)) 5 (.ref h45)) 6 (.ref h53)) 7 (.ref h61)) 8 (.ref h69)) 9 (.ref h76)) 10 (.ref h83)) 11 (.ref h90)) 12 (.ref h97)) 13 (.ref h105)) 14 (.ref h113) := by rw [es115, q_upF, F113]
  have x115 : ∀ b, b ≠ a0 → σ115 b = σ113 b := by rw [es115]; exact fun b hb => q_up_ne hb
  show q_O X 14 544 τ113 σ115 118 [(0, .ref a0)] []
  refine q_aload_n (pc := 118) hG dX7_init_118 0 rfl ?_
  refine q_bipush (pc := 119) hG dX7_init_119 kb_64 ?_
  refine q_putV (pc := 121) hG fl_X7_59 dX7_init_121 A113.1 rfl rfl ?_
  obtain ⟨σ121, es121⟩ : ∃ t : q_V, t = q_up σ115 a0 15 (.int 64) := ⟨_, rfl⟩
  rw [← es121]
  have I121 : q_I τ113 σ121 := by rw [es121]; exact I115.put A113.1 (fun hj => absurd (show 15 < 0 from hj) (Nat.not_lt_zero _))
  have F121 : σ121 a0 = updV (updV (updV (updV (updV (updV (updV (updV (updV (updV (updV (updV (updV (updV (updV (updV (σ a0) 0 (.int 16)) 1 (.ref h13)) 2 (.ref h21)) 3 (.ref h29)) 4 (.ref h37)) 5 (.ref h45)) 6 (.ref h53)) 7 (.ref h61)) 8 (.ref h69)) 9 (.ref h76)) 10 (.ref h83)) 11 (.ref h90)) 12 (.ref h97)) 13 (.ref h105)) 14 (.ref h113)) 15 (.int 64) := by rw [es121, q_upF, F115]
  have x121 : ∀ b, b ≠ a0 → σ121 b = σ115 b := by rw [es121]; exact fun b hb => q_up_ne hb
  show q_O X 14 544 τ113 σ121 124 [(0, .ref a0)] []
  refine q_aload_n (pc := 124) hG dX7_init_124 0 rfl ?_
  refine q_iconst (pc := 125) hG dX7_init_125 ki_m1 ?_
  refine q_putV (pc := 126) hG fl_X7_62 dX7_init_126 A113.1 rfl rfl ?_
  obtain ⟨σ126, es126⟩ : ∃ t : q_V, t = q_up σ121 a0 16 (.int (-1)) := ⟨_, rfl⟩
  rw [← es126]
  have I126 : q_I τ113 σ126 := by rw [es126]; exact I121.put A113.1 (fun hj => absurd (show 16 < 0 from hj) (Nat.not_lt_zero _))
  have F126 : σ126 a0 = updV (updV (updV (updV (updV (updV (updV (updV (updV (updV (updV (updV (updV (updV (updV (updV (updV (σ a0) 0 (.int 16)) 1 (.ref h13)) 2 (.ref h21)) 3 (.ref h29)) 4 (.ref h37)) 5 (.ref h45)) 6 (.ref h53)) 7 (.ref h61)) 8 (.ref h69)) 9 (.ref h76)) 10 (.ref h83)) 11 (.ref h90)) 12 (.ref h97)) 13 (.ref h105)) 14 (.ref h113)) 15 (.int 64)) 16 (.int (-1)) := by rw [es126, q_upF, F121]
  have x126 : ∀ b, b ≠ a0 → σ126 b = σ121 b := by rw [es126]; exact fun b hb => q_up_ne hb
  show q_O X 14 544 τ113 σ126 129 [(0, .ref a0)] []
  refine q_aload_n (pc := 129) hG dX7_init_129 0 rfl ?_
  refine q_iconst (pc := 130) hG dX7_init_130 ki_0 ?_
  refine q_putV (pc := 131) hG fl_X7_65 dX7_init_131 A113.1 rfl rfl ?_
  obtain ⟨σ131, es131⟩ : ∃ t : q_V, t = q_up σ126 a0 17 (.int 0) := ⟨_, rfl⟩
  rw [← es131]
  have I131 : q_I τ113 σ131 := by rw [es131]; exact I126.put A113.1 (fun hj => absurd (show 17 < 0 from hj) (Nat.not_lt_zero _))
  have F131 : σ131 a0 = updV (updV (updV (updV (updV (updV (updV (updV (updV (updV (updV (updV (updV (updV (updV (updV (updV (updV (σ a0) 0 (.int 16)) 1 (.ref h13)) 2 (.ref h21)) 3 (.ref h29)) 4 (.ref h37)) 5 (.ref h45)) 6 (.ref h53)) 7 (.ref h61)) 8 (.ref h69)) 9 (.ref h76)) 10 (.ref h83)) 11 (.ref h90)) 12 (.ref h97)) 13 (.ref h105)) 14 (.ref h113)) 15 (.int 64)) 16 (.int (-1))) 17 (.int 0) := by rw [es131, q_upF, F126]
  have x131 : ∀ b, b ≠ a0 → σ131 b = σ126 b := by rw [es131]; exact fun b hb => q_up_ne hb
  show q_O X 14 544 τ113 σ131 134 [(0, .ref a0)] []
  show q_O X 14 544 τ113 σ131 134 [(0, .ref a0)] []
  have FR : ∀ (b : Nat) (x : Nat × Nat), b ≠ a0 → τ b = some x → τ113 b = some x ∧ (x = (9, 0) ∨ x = (4, 0) ∨ x = (118, 64) ∨ x = (4, 1) ∨ x = (3, 1) → σ131 b = σ b) ∧ (x = (6, 1) → ∀ j, j < 4 → σ131 b j = σ b j) := by
    intro b x ba hb
    obtain ⟨y13, v13⟩ := x13.1 b x hb
    have w13 : b ≠ h13 := fun e => by rw [e, n13] at hb; cases hb
    obtain ⟨y21, v21⟩ := x21.1 b x y13
    have w21 : b ≠ h21 := fun e => by rw [e, n21] at y13; cases y13
    obtain ⟨y29, v29⟩ := x29.1 b x y21
    have w29 : b ≠ h29 := fun e => by rw [e, n29] at y21; cases y21
    obtain ⟨y37, v37⟩ := x37.1 b x y29
    have w37 : b ≠ h37 := fun e => by rw [e, n37] at y29; cases y29
    obtain ⟨y45, v45⟩ := x45.1 b x y37
    have w45 : b ≠ h45 := fun e => by rw [e, n45] at y37; cases y37
    obtain ⟨y53, v53⟩ := x53.1 b x y45
    have w53 : b ≠ h53 := fun e => by rw [e, n53] at y45; cases y45
    obtain ⟨y61, v61⟩ := x61.1 b x y53
    have w61 : b ≠ h61 := fun e => by rw [e, n61] at y53; cases y53
    obtain ⟨y69, v69⟩ := x69.1 b x y61
    have w69 : b ≠ h69 := fun e => by rw [e, n69] at y61; cases y61
    obtain ⟨y76, v76⟩ := x76.1 b x y69
    have w76 : b ≠ h76 := fun e => by rw [e, n76] at y69; cases y69
    obtain ⟨y83, v83⟩ := x83.1 b x y76
    have w83 : b ≠ h83 := fun e => by rw [e, n83] at y76; cases y76
    obtain ⟨y90, v90⟩ := x90.1 b x y83
    have w90 : b ≠ h90 := fun e => by rw [e, n90] at y83; cases y83
    obtain ⟨y97, v97⟩ := x97.1 b x y90
    have w97 : b ≠ h97 := fun e => by rw [e, n97] at y90; cases y90
    obtain ⟨y105, v105⟩ := x105.1 b x y97
    have w105 : b ≠ h105 := fun e => by rw [e, n105] at y97; cases y97
    obtain ⟨y113, v113⟩ := x113.1 b x y105
    have w113 : b ≠ h113 := fun e => by rw [e, n113] at y105; cases y105
    refine ⟨y113, fun hx => ?_, fun hx => ?_⟩
    · skip
      have u0 : σ b = σ b := rfl
      have u7 := (x7 b ba).trans u0
      have u13 := v13.trans u7
      have u15 := (x15 b ba).trans u13
      have u21 := v21.trans u15
      have u23 := (x23 b ba).trans u21
      have u29 := v29.trans u23
      have u31 := (x31 b ba).trans u29
      have u37 := v37.trans u31
      have u39 := (x39 b ba).trans u37
      have u45 := v45.trans u39
      have u47 := (x47 b ba).trans u45
      have u53 := v53.trans u47
      have u55 := (x55 b ba).trans u53
      have u61 := v61.trans u55
      have u63 := (x63 b ba).trans u61
      have u69 := v69.trans u63
      have u71 := (x71 b ba).trans u69
      have u76 := v76.trans u71
      have u78 := (x78 b ba).trans u76
      have u83 := v83.trans u78
      have u85 := (x85 b ba).trans u83
      have u90 := v90.trans u85
      have u92 := (x92 b ba).trans u90
      have u97 := v97.trans u92
      have u99 := (x99 b ba).trans u97
      have u105 := v105.trans u99
      have u107 := (x107 b ba).trans u105
      have u113 := v113.trans u107
      have u115 := (x115 b ba).trans u113
      have u121 := (x121 b ba).trans u115
      have u126 := (x126 b ba).trans u121
      have u131 := (x131 b ba).trans u126
      exact u131
    · intro j hj
      have u0 : σ b j = σ b j := rfl
      have u7 := (congrFun (x7 b ba) j).trans u0
      have u13 := (congrFun v13 j).trans u7
      have u15 := (congrFun (x15 b ba) j).trans u13
      have u21 := (congrFun v21 j).trans u15
      have u23 := (congrFun (x23 b ba) j).trans u21
      have u29 := (congrFun v29 j).trans u23
      have u31 := (congrFun (x31 b ba) j).trans u29
      have u37 := (congrFun v37 j).trans u31
      have u39 := (congrFun (x39 b ba) j).trans u37
      have u45 := (congrFun v45 j).trans u39
      have u47 := (congrFun (x47 b ba) j).trans u45
      have u53 := (congrFun v53 j).trans u47
      have u55 := (congrFun (x55 b ba) j).trans u53
      have u61 := (congrFun v61 j).trans u55
      have u63 := (congrFun (x63 b ba) j).trans u61
      have u69 := (congrFun v69 j).trans u63
      have u71 := (congrFun (x71 b ba) j).trans u69
      have u76 := (congrFun v76 j).trans u71
      have u78 := (congrFun (x78 b ba) j).trans u76
      have u83 := (congrFun v83 j).trans u78
      have u85 := (congrFun (x85 b ba) j).trans u83
      have u90 := (congrFun v90 j).trans u85
      have u92 := (congrFun (x92 b ba) j).trans u90
      have u97 := (congrFun v97 j).trans u92
      have u99 := (congrFun (x99 b ba) j).trans u97
      have u105 := (congrFun v105 j).trans u99
      have u107 := (congrFun (x107 b ba) j).trans u105
      have u113 := (congrFun v113 j).trans u107
      have u115 := (congrFun (x115 b ba) j).trans u113
      have u121 := (congrFun (x121 b ba) j).trans u115
      have u126 := (congrFun (x126 b ba) j).trans u121
      have u131 := (congrFun (x131 b ba) j).trans u126
      exact u131
  have EX : ∀ (b : Nat) (x : Nat × Nat), b ≠ a0 → τ b = some x → ∀ i : Nat, fx_N σ131 b i = fx_N σ b i := by
    intro b x ba hb i
    have e0 : fx_N σ b i = fx_N σ b i := rfl
    have e7 := (congrArg fx_num (congrFun (x7 b ba) i)).trans e0
    obtain ⟨y13, v13⟩ := x13.1 b x hb
    have w13 : b ≠ h13 := fun e => by rw [e, n13] at hb; cases hb
    have e13 := (congrArg fx_num (congrFun v13 i)).trans e7
    have e15 := (congrArg fx_num (congrFun (x15 b ba) i)).trans e13
    obtain ⟨y21, v21⟩ := x21.1 b x y13
    have w21 : b ≠ h21 := fun e => by rw [e, n21] at y13; cases y13
    have e21 := (congrArg fx_num (congrFun v21 i)).trans e15
    have e23 := (congrArg fx_num (congrFun (x23 b ba) i)).trans e21
    obtain ⟨y29, v29⟩ := x29.1 b x y21
    have w29 : b ≠ h29 := fun e => by rw [e, n29] at y21; cases y21
    have e29 := (congrArg fx_num (congrFun v29 i)).trans e23
    have e31 := (congrArg fx_num (congrFun (x31 b ba) i)).trans e29
    obtain ⟨y37, v37⟩ := x37.1 b x y29
    have w37 : b ≠ h37 := fun e => by rw [e, n37] at y29; cases y29
    have e37 := (congrArg fx_num (congrFun v37 i)).trans e31
    have e39 := (congrArg fx_num (congrFun (x39 b ba) i)).trans e37
    obtain ⟨y45, v45⟩ := x45.1 b x y37
    have w45 : b ≠ h45 := fun e => by rw [e, n45] at y37; cases y37
    have e45 := (congrArg fx_num (congrFun v45 i)).trans e39
    have e47 := (congrArg fx_num (congrFun (x47 b ba) i)).trans e45
    obtain ⟨y53, v53⟩ := x53.1 b x y45
    have w53 : b ≠ h53 := fun e => by rw [e, n53] at y45; cases y45
    have e53 := (congrArg fx_num (congrFun v53 i)).trans e47
    have e55 := (congrArg fx_num (congrFun (x55 b ba) i)).trans e53
    obtain ⟨y61, v61⟩ := x61.1 b x y53
    have w61 : b ≠ h61 := fun e => by rw [e, n61] at y53; cases y53
    have e61 := (congrArg fx_num (congrFun v61 i)).trans e55
    have e63 := (congrArg fx_num (congrFun (x63 b ba) i)).trans e61
    obtain ⟨y69, v69⟩ := x69.1 b x y61
    have w69 : b ≠ h69 := fun e => by rw [e, n69] at y61; cases y61
    have e69 := (congrArg fx_num (congrFun v69 i)).trans e63
    have e71 := (congrArg fx_num (congrFun (x71 b ba) i)).trans e69
    obtain ⟨y76, v76⟩ := x76.1 b x y69
    have w76 : b ≠ h76 := fun e => by rw [e, n76] at y69; cases y69
    have e76 := (congrArg fx_num (congrFun v76 i)).trans e71
    have e78 := (congrArg fx_num (congrFun (x78 b ba) i)).trans e76
    obtain ⟨y83, v83⟩ := x83.1 b x y76
    have w83 : b ≠ h83 := fun e => by rw [e, n83] at y76; cases y76
    have e83 := (congrArg fx_num (congrFun v83 i)).trans e78
    have e85 := (congrArg fx_num (congrFun (x85 b ba) i)).trans e83
    obtain ⟨y90, v90⟩ := x90.1 b x y83
    have w90 : b ≠ h90 := fun e => by rw [e, n90] at y83; cases y83
    have e90 := (congrArg fx_num (congrFun v90 i)).trans e85
    have e92 := (congrArg fx_num (congrFun (x92 b ba) i)).trans e90
    obtain ⟨y97, v97⟩ := x97.1 b x y90
    have w97 : b ≠ h97 := fun e => by rw [e, n97] at y90; cases y90
    have e97 := (congrArg fx_num (congrFun v97 i)).trans e92
    have e99 := (congrArg fx_num (congrFun (x99 b ba) i)).trans e97
    obtain ⟨y105, v105⟩ := x105.1 b x y97
    have w105 : b ≠ h105 := fun e => by rw [e, n105] at y97; cases y97
    have e105 := (congrArg fx_num (congrFun v105 i)).trans e99
    have e107 := (congrArg fx_num (congrFun (x107 b ba) i)).trans e105
    obtain ⟨y113, v113⟩ := x113.1 b x y105
    have w113 : b ≠ h113 := fun e => by rw [e, n113] at y105; cases y105
    have e113 := (congrArg fx_num (congrFun v113 i)).trans e107
    have e115 := (congrArg fx_num (congrFun (x115 b ba) i)).trans e113
    have e121 := (congrArg fx_num (congrFun (x121 b ba) i)).trans e115
    have e126 := (congrArg fx_num (congrFun (x126 b ba) i)).trans e121
    have e131 := (congrArg fx_num (congrFun (x131 b ba) i)).trans e126
    exact e131
  have N3 : ∀ b n : Nat, τ113 b = some (103, n) → τ b = some (103, n) := by
    intro b n hb
    have k113 := x113.2 b n hb
    have k105 := x105.2 b n k113
    have k97 := x97.2 b n k105
    have k90 := x90.2 b n k97
    have k83 := x83.2 b n k90
    have k76 := x76.2 b n k83
    have k69 := x69.2 b n k76
    have k61 := x61.2 b n k69
    have k53 := x53.2 b n k61
    have k45 := x45.2 b n k53
    have k37 := x37.2 b n k45
    have k29 := x29.2 b n k37
    have k21 := x21.2 b n k29
    have k13 := x13.2 b n k21
    exact k13
  have HF : ∀ j, j < q_nf 6 → q_v (q_tu τ113 a0 (6, 1)) (q_f 6 j) (σ131 a0 j) := by
    rw [F131]
    intro j hj
    rcases j with _ | j
    · show q_v _ (q_f 6 0) (.int 16); exact q_vi ff_6_0 rl_16 (by decide)
    rcases j with _ | j
    · show q_v _ (q_f 6 1) (.ref h13); exact q_vr (k := 118) (n := 64) ff_6_1 ((q_tu_ne (q_neT (x113.1 h13 _ (x105.1 h13 _ (x97.1 h13 _ (x90.1 h13 _ (x83.1 h13 _ (x76.1 h13 _ (x69.1 h13 _ (x61.1 h13 _ (x53.1 h13 _ (x45.1 h13 _ (x37.1 h13 _ (x29.1 h13 _ (x21.1 h13 _ T13).1).1).1).1).1).1).1).1).1).1).1).1).1 A113.1 (by decide))).trans (x113.1 h13 _ (x105.1 h13 _ (x97.1 h13 _ (x90.1 h13 _ (x83.1 h13 _ (x76.1 h13 _ (x69.1 h13 _ (x61.1 h13 _ (x53.1 h13 _ (x45.1 h13 _ (x37.1 h13 _ (x29.1 h13 _ (x21.1 h13 _ T13).1).1).1).1).1).1).1).1).1).1).1).1).1) (by decide)
    rcases j with _ | j
    · show q_v _ (q_f 6 2) (.ref h21); exact q_vr (k := 118) (n := 64) ff_6_2 ((q_tu_ne (q_neT (x113.1 h21 _ (x105.1 h21 _ (x97.1 h21 _ (x90.1 h21 _ (x83.1 h21 _ (x76.1 h21 _ (x69.1 h21 _ (x61.1 h21 _ (x53.1 h21 _ (x45.1 h21 _ (x37.1 h21 _ (x29.1 h21 _ T21).1).1).1).1).1).1).1).1).1).1).1).1 A113.1 (by decide))).trans (x113.1 h21 _ (x105.1 h21 _ (x97.1 h21 _ (x90.1 h21 _ (x83.1 h21 _ (x76.1 h21 _ (x69.1 h21 _ (x61.1 h21 _ (x53.1 h21 _ (x45.1 h21 _ (x37.1 h21 _ (x29.1 h21 _ T21).1).1).1).1).1).1).1).1).1).1).1).1) (by decide)
    rcases j with _ | j
    · show q_v _ (q_f 6 3) (.ref h29); exact q_vr (k := 118) (n := 64) ff_6_3 ((q_tu_ne (q_neT (x113.1 h29 _ (x105.1 h29 _ (x97.1 h29 _ (x90.1 h29 _ (x83.1 h29 _ (x76.1 h29 _ (x69.1 h29 _ (x61.1 h29 _ (x53.1 h29 _ (x45.1 h29 _ (x37.1 h29 _ T29).1).1).1).1).1).1).1).1).1).1).1 A113.1 (by decide))).trans (x113.1 h29 _ (x105.1 h29 _ (x97.1 h29 _ (x90.1 h29 _ (x83.1 h29 _ (x76.1 h29 _ (x69.1 h29 _ (x61.1 h29 _ (x53.1 h29 _ (x45.1 h29 _ (x37.1 h29 _ T29).1).1).1).1).1).1).1).1).1).1).1) (by decide)
    rcases j with _ | j
    · show q_v _ (q_f 6 4) (.ref h37); exact q_vr (k := 119) (n := 64) ff_6_4 ((q_tu_ne (q_neT (x113.1 h37 _ (x105.1 h37 _ (x97.1 h37 _ (x90.1 h37 _ (x83.1 h37 _ (x76.1 h37 _ (x69.1 h37 _ (x61.1 h37 _ (x53.1 h37 _ (x45.1 h37 _ T37).1).1).1).1).1).1).1).1).1).1 A113.1 (by decide))).trans (x113.1 h37 _ (x105.1 h37 _ (x97.1 h37 _ (x90.1 h37 _ (x83.1 h37 _ (x76.1 h37 _ (x69.1 h37 _ (x61.1 h37 _ (x53.1 h37 _ (x45.1 h37 _ T37).1).1).1).1).1).1).1).1).1).1) (by decide)
    rcases j with _ | j
    · show q_v _ (q_f 6 5) (.ref h45); exact q_vr (k := 120) (n := 64) ff_6_5 ((q_tu_ne (q_neT (x113.1 h45 _ (x105.1 h45 _ (x97.1 h45 _ (x90.1 h45 _ (x83.1 h45 _ (x76.1 h45 _ (x69.1 h45 _ (x61.1 h45 _ (x53.1 h45 _ T45).1).1).1).1).1).1).1).1).1 A113.1 (by decide))).trans (x113.1 h45 _ (x105.1 h45 _ (x97.1 h45 _ (x90.1 h45 _ (x83.1 h45 _ (x76.1 h45 _ (x69.1 h45 _ (x61.1 h45 _ (x53.1 h45 _ T45).1).1).1).1).1).1).1).1).1) (by decide)
    rcases j with _ | j
    · show q_v _ (q_f 6 6) (.ref h53); exact q_vr (k := 121) (n := 64) ff_6_6 ((q_tu_ne (q_neT (x113.1 h53 _ (x105.1 h53 _ (x97.1 h53 _ (x90.1 h53 _ (x83.1 h53 _ (x76.1 h53 _ (x69.1 h53 _ (x61.1 h53 _ T53).1).1).1).1).1).1).1).1 A113.1 (by decide))).trans (x113.1 h53 _ (x105.1 h53 _ (x97.1 h53 _ (x90.1 h53 _ (x83.1 h53 _ (x76.1 h53 _ (x69.1 h53 _ (x61.1 h53 _ T53).1).1).1).1).1).1).1).1) (by decide)
    rcases j with _ | j
    · show q_v _ (q_f 6 7) (.ref h61); exact q_vr (k := 122) (n := 64) ff_6_7 ((q_tu_ne (q_neT (x113.1 h61 _ (x105.1 h61 _ (x97.1 h61 _ (x90.1 h61 _ (x83.1 h61 _ (x76.1 h61 _ (x69.1 h61 _ T61).1).1).1).1).1).1).1 A113.1 (by decide))).trans (x113.1 h61 _ (x105.1 h61 _ (x97.1 h61 _ (x90.1 h61 _ (x83.1 h61 _ (x76.1 h61 _ (x69.1 h61 _ T61).1).1).1).1).1).1).1) (by decide)
    rcases j with _ | j
    · show q_v _ (q_f 6 8) (.ref h69); exact q_vr (k := 123) (n := 64) ff_6_8 ((q_tu_ne (q_neT (x113.1 h69 _ (x105.1 h69 _ (x97.1 h69 _ (x90.1 h69 _ (x83.1 h69 _ (x76.1 h69 _ T69).1).1).1).1).1).1 A113.1 (by decide))).trans (x113.1 h69 _ (x105.1 h69 _ (x97.1 h69 _ (x90.1 h69 _ (x83.1 h69 _ (x76.1 h69 _ T69).1).1).1).1).1).1) (by decide)
    rcases j with _ | j
    · show q_v _ (q_f 6 9) (.ref h76); exact q_vr (k := 210) (n := 2) ff_6_9 ((q_tu_ne (q_neT (x113.1 h76 _ (x105.1 h76 _ (x97.1 h76 _ (x90.1 h76 _ (x83.1 h76 _ T76).1).1).1).1).1 A113.1 (by decide))).trans (x113.1 h76 _ (x105.1 h76 _ (x97.1 h76 _ (x90.1 h76 _ (x83.1 h76 _ T76).1).1).1).1).1) (by decide)
    rcases j with _ | j
    · show q_v _ (q_f 6 10) (.ref h83); exact q_vr (k := 124) (n := 2) ff_6_10 ((q_tu_ne (q_neT (x113.1 h83 _ (x105.1 h83 _ (x97.1 h83 _ (x90.1 h83 _ T83).1).1).1).1 A113.1 (by decide))).trans (x113.1 h83 _ (x105.1 h83 _ (x97.1 h83 _ (x90.1 h83 _ T83).1).1).1).1) (by decide)
    rcases j with _ | j
    · show q_v _ (q_f 6 11) (.ref h90); exact q_vr (k := 125) (n := 2) ff_6_11 ((q_tu_ne (q_neT (x113.1 h90 _ (x105.1 h90 _ (x97.1 h90 _ T90).1).1).1 A113.1 (by decide))).trans (x113.1 h90 _ (x105.1 h90 _ (x97.1 h90 _ T90).1).1).1) (by decide)
    rcases j with _ | j
    · show q_v _ (q_f 6 12) (.ref h97); exact q_vr (k := 126) (n := 2) ff_6_12 ((q_tu_ne (q_neT (x113.1 h97 _ (x105.1 h97 _ T97).1).1 A113.1 (by decide))).trans (x113.1 h97 _ (x105.1 h97 _ T97).1).1) (by decide)
    rcases j with _ | j
    · show q_v _ (q_f 6 13) (.ref h105); exact q_vr (k := 127) (n := 12) ff_6_13 ((q_tu_ne (q_neT (x113.1 h105 _ T105).1 A113.1 (by decide))).trans (x113.1 h105 _ T105).1) (by decide)
    rcases j with _ | j
    · show q_v _ (q_f 6 14) (.ref h113); exact q_vr (k := 128) (n := 12) ff_6_14 ((q_tu_ne (q_neT T113 A113.1 (by decide))).trans T113) (by decide)
    rcases j with _ | j
    · show q_v _ (q_f 6 15) (.int 64); exact q_vi ff_6_15 rl_64 (by decide)
    rcases j with _ | j
    · show q_v _ (q_f 6 16) (.int (-1)); exact q_vi ff_6_16 rl_m1 (by decide)
    rcases j with _ | j
    · show q_v _ (q_f 6 17) (.int 0); exact q_vi ff_6_17 rl_0 (by decide)
    exact absurd hj (by show ¬ _ < 18; omega)
  refine q_retype A113.1 (by decide) ?_
  have NO : h97 ≠ a0 := q_neT T97 A97.1 (by decide)
  have oz97 : σ97 h97 = (fun _ => .int 0) := z97.trans (funext fun _ => rfl)
  have oz99 : σ99 h97 = (fun _ => .int 0) := (x99 h97 NO).trans oz97
  have oz105 : σ105 h97 = (fun _ => .int 0) := (x105.1 h97 _ T97).2.trans oz99
  have oz107 : σ107 h97 = (fun _ => .int 0) := (x107 h97 NO).trans oz105
  have oz113 : σ113 h97 = (fun _ => .int 0) := (x113.1 h97 _ (x105.1 h97 _ T97).1).2.trans oz107
  have oz115 : σ115 h97 = (fun _ => .int 0) := (x115 h97 NO).trans oz113
  have oz121 : σ121 h97 = (fun _ => .int 0) := (x121 h97 NO).trans oz115
  have oz126 : σ126 h97 = (fun _ => .int 0) := (x126 h97 NO).trans oz121
  have oz131 : σ131 h97 = (fun _ => .int 0) := (x131 h97 NO).trans oz126
  have tq1 : q_tu τ113 a0 (6, 1) h13 = some (zw_k.getD 1 (0, 0)) := (q_tu_ne (q_neT (x113.1 h13 _ (x105.1 h13 _ (x97.1 h13 _ (x90.1 h13 _ (x83.1 h13 _ (x76.1 h13 _ (x69.1 h13 _ (x61.1 h13 _ (x53.1 h13 _ (x45.1 h13 _ (x37.1 h13 _ (x29.1 h13 _ (x21.1 h13 _ T13).1).1).1).1).1).1).1).1).1).1).1).1).1 A113.1 (by decide))).trans (x113.1 h13 _ (x105.1 h13 _ (x97.1 h13 _ (x90.1 h13 _ (x83.1 h13 _ (x76.1 h13 _ (x69.1 h13 _ (x61.1 h13 _ (x53.1 h13 _ (x45.1 h13 _ (x37.1 h13 _ (x29.1 h13 _ (x21.1 h13 _ T13).1).1).1).1).1).1).1).1).1).1).1).1).1
  have tq2 : q_tu τ113 a0 (6, 1) h21 = some (zw_k.getD 2 (0, 0)) := (q_tu_ne (q_neT (x113.1 h21 _ (x105.1 h21 _ (x97.1 h21 _ (x90.1 h21 _ (x83.1 h21 _ (x76.1 h21 _ (x69.1 h21 _ (x61.1 h21 _ (x53.1 h21 _ (x45.1 h21 _ (x37.1 h21 _ (x29.1 h21 _ T21).1).1).1).1).1).1).1).1).1).1).1).1 A113.1 (by decide))).trans (x113.1 h21 _ (x105.1 h21 _ (x97.1 h21 _ (x90.1 h21 _ (x83.1 h21 _ (x76.1 h21 _ (x69.1 h21 _ (x61.1 h21 _ (x53.1 h21 _ (x45.1 h21 _ (x37.1 h21 _ (x29.1 h21 _ T21).1).1).1).1).1).1).1).1).1).1).1).1
  have tq3 : q_tu τ113 a0 (6, 1) h29 = some (zw_k.getD 3 (0, 0)) := (q_tu_ne (q_neT (x113.1 h29 _ (x105.1 h29 _ (x97.1 h29 _ (x90.1 h29 _ (x83.1 h29 _ (x76.1 h29 _ (x69.1 h29 _ (x61.1 h29 _ (x53.1 h29 _ (x45.1 h29 _ (x37.1 h29 _ T29).1).1).1).1).1).1).1).1).1).1).1 A113.1 (by decide))).trans (x113.1 h29 _ (x105.1 h29 _ (x97.1 h29 _ (x90.1 h29 _ (x83.1 h29 _ (x76.1 h29 _ (x69.1 h29 _ (x61.1 h29 _ (x53.1 h29 _ (x45.1 h29 _ (x37.1 h29 _ T29).1).1).1).1).1).1).1).1).1).1).1
  have tq4 : q_tu τ113 a0 (6, 1) h37 = some (zw_k.getD 4 (0, 0)) := (q_tu_ne (q_neT (x113.1 h37 _ (x105.1 h37 _ (x97.1 h37 _ (x90.1 h37 _ (x83.1 h37 _ (x76.1 h37 _ (x69.1 h37 _ (x61.1 h37 _ (x53.1 h37 _ (x45.1 h37 _ T37).1).1).1).1).1).1).1).1).1).1 A113.1 (by decide))).trans (x113.1 h37 _ (x105.1 h37 _ (x97.1 h37 _ (x90.1 h37 _ (x83.1 h37 _ (x76.1 h37 _ (x69.1 h37 _ (x61.1 h37 _ (x53.1 h37 _ (x45.1 h37 _ T37).1).1).1).1).1).1).1).1).1).1
  have tq5 : q_tu τ113 a0 (6, 1) h45 = some (zw_k.getD 5 (0, 0)) := (q_tu_ne (q_neT (x113.1 h45 _ (x105.1 h45 _ (x97.1 h45 _ (x90.1 h45 _ (x83.1 h45 _ (x76.1 h45 _ (x69.1 h45 _ (x61.1 h45 _ (x53.1 h45 _ T45).1).1).1).1).1).1).1).1).1 A113.1 (by decide))).trans (x113.1 h45 _ (x105.1 h45 _ (x97.1 h45 _ (x90.1 h45 _ (x83.1 h45 _ (x76.1 h45 _ (x69.1 h45 _ (x61.1 h45 _ (x53.1 h45 _ T45).1).1).1).1).1).1).1).1).1
  have tq6 : q_tu τ113 a0 (6, 1) h53 = some (zw_k.getD 6 (0, 0)) := (q_tu_ne (q_neT (x113.1 h53 _ (x105.1 h53 _ (x97.1 h53 _ (x90.1 h53 _ (x83.1 h53 _ (x76.1 h53 _ (x69.1 h53 _ (x61.1 h53 _ T53).1).1).1).1).1).1).1).1 A113.1 (by decide))).trans (x113.1 h53 _ (x105.1 h53 _ (x97.1 h53 _ (x90.1 h53 _ (x83.1 h53 _ (x76.1 h53 _ (x69.1 h53 _ (x61.1 h53 _ T53).1).1).1).1).1).1).1).1
  have tq7 : q_tu τ113 a0 (6, 1) h61 = some (zw_k.getD 7 (0, 0)) := (q_tu_ne (q_neT (x113.1 h61 _ (x105.1 h61 _ (x97.1 h61 _ (x90.1 h61 _ (x83.1 h61 _ (x76.1 h61 _ (x69.1 h61 _ T61).1).1).1).1).1).1).1 A113.1 (by decide))).trans (x113.1 h61 _ (x105.1 h61 _ (x97.1 h61 _ (x90.1 h61 _ (x83.1 h61 _ (x76.1 h61 _ (x69.1 h61 _ T61).1).1).1).1).1).1).1
  have tq8 : q_tu τ113 a0 (6, 1) h69 = some (zw_k.getD 8 (0, 0)) := (q_tu_ne (q_neT (x113.1 h69 _ (x105.1 h69 _ (x97.1 h69 _ (x90.1 h69 _ (x83.1 h69 _ (x76.1 h69 _ T69).1).1).1).1).1).1 A113.1 (by decide))).trans (x113.1 h69 _ (x105.1 h69 _ (x97.1 h69 _ (x90.1 h69 _ (x83.1 h69 _ (x76.1 h69 _ T69).1).1).1).1).1).1
  have tq9 : q_tu τ113 a0 (6, 1) h76 = some (zw_k.getD 9 (0, 0)) := (q_tu_ne (q_neT (x113.1 h76 _ (x105.1 h76 _ (x97.1 h76 _ (x90.1 h76 _ (x83.1 h76 _ T76).1).1).1).1).1 A113.1 (by decide))).trans (x113.1 h76 _ (x105.1 h76 _ (x97.1 h76 _ (x90.1 h76 _ (x83.1 h76 _ T76).1).1).1).1).1
  have tq10 : q_tu τ113 a0 (6, 1) h83 = some (zw_k.getD 10 (0, 0)) := (q_tu_ne (q_neT (x113.1 h83 _ (x105.1 h83 _ (x97.1 h83 _ (x90.1 h83 _ T83).1).1).1).1 A113.1 (by decide))).trans (x113.1 h83 _ (x105.1 h83 _ (x97.1 h83 _ (x90.1 h83 _ T83).1).1).1).1
  have tq11 : q_tu τ113 a0 (6, 1) h90 = some (zw_k.getD 11 (0, 0)) := (q_tu_ne (q_neT (x113.1 h90 _ (x105.1 h90 _ (x97.1 h90 _ T90).1).1).1 A113.1 (by decide))).trans (x113.1 h90 _ (x105.1 h90 _ (x97.1 h90 _ T90).1).1).1
  have tq12 : q_tu τ113 a0 (6, 1) h97 = some (zw_k.getD 12 (0, 0)) := (q_tu_ne (q_neT (x113.1 h97 _ (x105.1 h97 _ T97).1).1 A113.1 (by decide))).trans (x113.1 h97 _ (x105.1 h97 _ T97).1).1
  have tq13 : q_tu τ113 a0 (6, 1) h105 = some (zw_k.getD 13 (0, 0)) := (q_tu_ne (q_neT (x113.1 h105 _ T105).1 A113.1 (by decide))).trans (x113.1 h105 _ T105).1
  have tq14 : q_tu τ113 a0 (6, 1) h113 = some (zw_k.getD 14 (0, 0)) := (q_tu_ne (q_neT T113 A113.1 (by decide))).trans T113
  obtain ⟨N, hN⟩ : ∃ N : Nat → Nat, N = (zw_15 a0 h13 h21 h29 h37 h45 h53 h61 h69 h76 h83 h90 h97 h105 h113) := ⟨_, rfl⟩
  have hN0 : N 0 = a0 := by rw [hN]; rfl
  have NT : zw_T (q_tu τ113 a0 (6, 1)) N := zw_15T (by rw [hN0]; exact q_tu_new) (by rw [hN]; exact zw_15A (P := fun j k => q_tu τ113 a0 (6, 1) k = some (zw_k.getD j (0, 0))) tq1 tq2 tq3 tq4 tq5 tq6 tq7 tq8 tq9 tq10 tq11 tq12 tq13 tq14)
  have NP : zn_P N (fx_N σ131) := by rw [show zn_P N (fx_N σ131) = ∀ j : Nat, 1 ≤ j → j ≤ 14 → fx_N σ131 (N 0) j = (N j : Int) from rfl, hN0, hN]; exact zw_15A (P := fun j k => fx_N σ131 a0 j = (k : Int)) (zz_NRc (by rw [F131]; rfl)) (zz_NRc (by rw [F131]; rfl)) (zz_NRc (by rw [F131]; rfl)) (zz_NRc (by rw [F131]; rfl)) (zz_NRc (by rw [F131]; rfl)) (zz_NRc (by rw [F131]; rfl)) (zz_NRc (by rw [F131]; rfl)) (zz_NRc (by rw [F131]; rfl)) (zz_NRc (by rw [F131]; rfl)) (zz_NRc (by rw [F131]; rfl)) (zz_NRc (by rw [F131]; rfl)) (zz_NRc (by rw [F131]; rfl)) (zz_NRc (by rw [F131]; rfl)) (zz_NRc (by rw [F131]; rfl))
  have NN : ∀ j : Nat, 1 ≤ j → j ≤ 14 → τ (N j) = none := by rw [hN]; exact zw_15A (P := fun _ k => τ k = none) N013 N021 N029 N037 N045 N053 N061 N069 N076 N083 N090 N097 N0105 N0113
  refine t_X7_init _ _ a0 (I131.made (by decide) A113.1 HF) q_tu_new hG (fun σ1 hS hX => ?_)
  obtain ⟨hXF, hX⟩ := hX
  obtain ⟨NM, NF⟩ := zw_made NT (by rw [hN]; exact NC21_h13) (by rw [hN]; exact NC29_h13) (by rw [hN]; exact NC29_h21) NP (by rw [hN0]; exact ⟨zz_Nc64 (by rw [F131]; rfl), zz_Ncm1 (by rw [F131]; rfl), zz_N0c (by rw [F131]; rfl)⟩) (fun a _ => by rw [hN]; show fx_num (σ131 h97 a) = 0; rw [oz131]; exact tl_0) (hXF.trans (by rw [hN0]))
  have EX1 : ∀ (b : Nat) (x : Nat × Nat), b ≠ a0 → τ b = some x → ∀ i : Nat, fx_N σ1 b i = fx_N σ b i := fun b x hb h i => (NF b (fun j hj e => by
    by_cases z : j = 0
    · exact hb (by rw [e, z, hN0])
    · have q := NN j (by omega) hj; rw [← e, h] at q; cases q) i).trans (EX b x hb h i)
  exact q_vret hG hE dX7_init_168 ⟨EX1, ⟨⟨hS.1, q_tu_new, fun b x hb h => ⟨(q_tu_ne hb).trans (FR b x hb h).1, ⟨fun hx => by
    have hT : q_tu τ113 a0 (6, 1) b = some x := (q_tu_ne hb).trans (FR b x hb h).1
    rw [← (FR b x hb h).2.1 hx]
    rcases hx with rfl | rfl | rfl | rfl | rfl
    · exact funext fun j => hS.2 b 9 0 j hT (q_md9 (by decide) j)
    · exact funext fun j => hS.2 b 4 0 j hT (q_md9 (by decide) j)
    · exact (hX.2.2 h13 h21 h29 (by rw [F131]; rfl) (by rw [F131]; rfl) (by rw [F131]; rfl)).1 b hT (fun e => by rw [e, N013] at h; cases h) (fun e => by rw [e, N021] at h; cases h) (fun e => by rw [e, N029] at h; cases h)
    · exact funext fun j => hS.2 b 4 1 j hT (q_md9 (by decide) j)
    · exact funext fun j => hS.2 b 3 1 j hT (q_md9 (by decide) j), fun hx j hj => by
    have hT : q_tu τ113 a0 (6, 1) b = some (6, 1) := (q_tu_ne hb).trans (by rw [← hx]; exact (FR b x hb h).1)
    rw [← (FR b x hb h).2.2 hx j hj]
    rcases (show j = 0 ∨ j = 1 ∨ j = 2 ∨ j = 3 by omega) with rfl | rfl | rfl | rfl
    · exact hX.2.1 b hb hT
    · exact hS.2 b 6 1 1 hT rfl
    · exact hS.2 b 6 1 2 hT rfl
    · exact hS.2 b 6 1 3 hT rfl⟩⟩, fun b n h => Classical.byCases (fun e : b = a0 => by rw [e, q_tu_new] at h; cases h) (fun e => by rw [q_tu_ne e] at h; exact N3 b n h)⟩, hX.1, ⟨N, hN0, NM, NN⟩, h13, h21, h29, ⟨hS.same q_tu_new rfl (by rw [F131]; rfl), hS.same q_tu_new rfl (by rw [F131]; rfl), hS.same q_tu_new rfl (by rw [F131]; rfl)⟩, ⟨NC21_h13, NC29_h13, NC29_h21⟩, ⟨N013, N021, N029⟩, (hX.2.2 h13 h21 h29 (by rw [F131]; rfl) (by rw [F131]; rfl) (by rw [F131]; rfl)).2⟩⟩
def f_X12_bares_raw (u : fx_U) (a0 : Nat) (x1 : Int) : fx_U :=
  fx_lr (u a0 0) fun bn => fx_lt (256 + x1) fun v8 => fx_ls (fx_pt u bn v8.toNat (-100)) fun u11 => fx_lt (320 + x1) fun v20 => fx_ls (fx_pt u11 bn v20.toNat (-2)) fun u23 => fx_lt (448 + x1) fun v32 => fx_ls (fx_pt u23 bn v32.toNat (-2)) fun u35 => u35
def md_X12_bares_raw : List (Nat × Nat) := [(103, 0)]
set_option maxRecDepth 100000 in
set_option maxHeartbeats 4000000 in
theorem c_X12_bares_raw {l : Launch} {D : q_D} (τ : q_T) (σ : q_V) (a0 : Nat) (x1 : Int32) (hI : q_I τ σ) (tA0 : τ a0 = some (10, 0)) (rA1 : q_r x1 0 63) (bn : Nat) (hbn : σ a0 0 = .ref bn) (Tbn : τ bn = some (103, 549)) : q_Cv l D yX12_bares cX12_bares 2 none 0 0 τ σ [.ref a0, .int x1] (fun σ1 => q_S md_X12_bares_raw τ σ σ1 ∧ (fx_N σ1 = f_X12_bares_raw (fx_N σ) a0 x1.toInt) ∧ (∀ j : Nat, j < 64 ∨ j = 512 → σ1 bn j = σ bn j) ∧ (fx_kr σ σ1 bn)) := by
  refine q_metv rfl (Nat.le_of_ble_eq_true rfl) (fun X hG hE => ?_)
  show q_O X 0 0 τ σ 0 [(0, .ref a0), (1, .int x1)] []
  have hS0 : q_S md_X12_bares_raw τ σ σ := q_S.rf hI
  obtain ⟨Fv, hF⟩ : ∃ z, fx_eq z (f_X12_bares_raw (fx_N σ) a0 x1.toInt) := ⟨_, fx_rf⟩
  have hF0 := hF
  unfold f_X12_bares_raw at hF
  replace hF := fx_R hF hbn rfl
  refine q_aload_n (pc := 0) hG dX12_bares_0 0 rfl ?_
  refine q_getV (pc := 1) (v := .ref bn) hG fl_X12_7 dX12_bares_1 tA0 hbn ?_
  refine q_sipush (pc := 4) hG dX12_bares_4 ks_256 ?_
  refine q_iload_n (pc := 7) hG dX12_bares_7 1 rfl ?_
  refine q_iadd (pc := 8) hG dX12_bares_8 (fun v8 e8 => ?_)
  replace hF := fx_add hF tl_256 rfl (q_addN (lo := 256) (hi := 319) e8 rl_256 rA1 (by decide)).1
  refine q_bipush (pc := 9) hG dX12_bares_9 kb_m100 ?_
  have r_1 := (q_addN (lo := 256) (hi := 319) e8 rl_256 rA1 (by decide)).2
  refine q_iast (pc := 11) hG dX12_bares_11 hS0 ai_103 Tbn (q_ix r_1 (by decide)) rl_m100 (by decide) rfl (fun s11 u11 w11 => ?_)
  replace hF := fx_P hF u11 rfl tl_m100
  have m11 : s11 bn v8.toInt.toNat = .int (-100) := by rw [u11]; exact q_up_same
  refine q_aload_n (pc := 12) hG dX12_bares_12 0 rfl ?_
  refine q_getV (pc := 13) (v := .ref bn) hG fl_X12_7 dX12_bares_13 tA0 (w11.same tA0 rfl hbn) ?_
  refine q_sipush (pc := 16) hG dX12_bares_16 ks_320 ?_
  refine q_iload_n (pc := 19) hG dX12_bares_19 1 rfl ?_
  refine q_iadd (pc := 20) hG dX12_bares_20 (fun v20 e20 => ?_)
  replace hF := fx_add hF tl_320 rfl (q_addN (lo := 320) (hi := 383) e20 rl_320 rA1 (by decide)).1
  refine q_bipush (pc := 21) hG dX12_bares_21 kb_m2 ?_
  have r_2 := (q_addN (lo := 320) (hi := 383) e20 rl_320 rA1 (by decide)).2
  refine q_iast (pc := 23) hG dX12_bares_23 w11 ai_103 Tbn (q_ix r_2 (by decide)) rl_m2 (by decide) rfl (fun s23 u23 w23 => ?_)
  replace hF := fx_P hF u23 rfl tl_m2
  have m23 : s23 bn v20.toInt.toNat = .int (-2) := by rw [u23]; exact q_up_same
  refine q_aload_n (pc := 24) hG dX12_bares_24 0 rfl ?_
  refine q_getV (pc := 25) (v := .ref bn) hG fl_X12_7 dX12_bares_25 tA0 (w23.same tA0 rfl hbn) ?_
  refine q_sipush (pc := 28) hG dX12_bares_28 ks_448 ?_
  refine q_iload_n (pc := 31) hG dX12_bares_31 1 rfl ?_
  refine q_iadd (pc := 32) hG dX12_bares_32 (fun v32 e32 => ?_)
  replace hF := fx_add hF tl_448 rfl (q_addN (lo := 448) (hi := 511) e32 rl_448 rA1 (by decide)).1
  refine q_bipush (pc := 33) hG dX12_bares_33 kb_m2 ?_
  have r_3 := (q_addN (lo := 448) (hi := 511) e32 rl_448 rA1 (by decide)).2
  refine q_iast (pc := 35) hG dX12_bares_35 w23 ai_103 Tbn (q_ix r_3 (by decide)) rl_m2 (by decide) rfl (fun s35 u35 w35 => ?_)
  replace hF := fx_P hF u35 rfl tl_m2
  have m35 : s35 bn v32.toInt.toNat = .int (-2) := by rw [u35]; exact q_up_same
  exact q_vrt hG hE dX12_bares_36 ⟨w35, (fx_end hF hF0), (fun j hj => by rw [u35, q_up_slot (by have o0 := (q_addN (lo := 256) (hi := 319) e8 rl_256 rA1 (by decide)).1; have o1 := (q_addN (lo := 320) (hi := 383) e20 rl_320 rA1 (by decide)).1; have o2 := (q_addN (lo := 448) (hi := 511) e32 rl_448 rA1 (by decide)).1; have o3 := r_2; have o4 := r_3; have o5 := r_1; have o6 := rA1; have l7 := tl_256; have l8 := tl_320; have l9 := tl_448; unfold q_r at o3 o4 o5 o6; omega), u23, q_up_slot (by have o0 := (q_addN (lo := 256) (hi := 319) e8 rl_256 rA1 (by decide)).1; have o1 := (q_addN (lo := 320) (hi := 383) e20 rl_320 rA1 (by decide)).1; have o2 := (q_addN (lo := 448) (hi := 511) e32 rl_448 rA1 (by decide)).1; have o3 := r_2; have o4 := r_3; have o5 := r_1; have o6 := rA1; have l7 := tl_256; have l8 := tl_320; have l9 := tl_448; unfold q_r at o3 o4 o5 o6; omega), u11, q_up_slot (by have o0 := (q_addN (lo := 256) (hi := 319) e8 rl_256 rA1 (by decide)).1; have o1 := (q_addN (lo := 320) (hi := 383) e20 rl_320 rA1 (by decide)).1; have o2 := (q_addN (lo := 448) (hi := 511) e32 rl_448 rA1 (by decide)).1; have o3 := r_2; have o4 := r_3; have o5 := r_1; have o6 := rA1; have l7 := tl_256; have l8 := tl_320; have l9 := tl_448; unfold q_r at o3 o4 o5 o6; omega)]), (fun j hj => by rw [u35, q_up_slot (by have o0 := (q_addN (lo := 256) (hi := 319) e8 rl_256 rA1 (by decide)).1; have o1 := (q_addN (lo := 320) (hi := 383) e20 rl_320 rA1 (by decide)).1; have o2 := (q_addN (lo := 448) (hi := 511) e32 rl_448 rA1 (by decide)).1; have o3 := r_2; have o4 := r_3; have o5 := r_1; have o6 := rA1; have l7 := tl_256; have l8 := tl_320; have l9 := tl_448; unfold q_r at o3 o4 o5 o6; omega), u23, q_up_slot (by have o0 := (q_addN (lo := 256) (hi := 319) e8 rl_256 rA1 (by decide)).1; have o1 := (q_addN (lo := 320) (hi := 383) e20 rl_320 rA1 (by decide)).1; have o2 := (q_addN (lo := 448) (hi := 511) e32 rl_448 rA1 (by decide)).1; have o3 := r_2; have o4 := r_3; have o5 := r_1; have o6 := rA1; have l7 := tl_256; have l8 := tl_320; have l9 := tl_448; unfold q_r at o3 o4 o5 o6; omega), u11, q_up_slot (by have o0 := (q_addN (lo := 256) (hi := 319) e8 rl_256 rA1 (by decide)).1; have o1 := (q_addN (lo := 320) (hi := 383) e20 rl_320 rA1 (by decide)).1; have o2 := (q_addN (lo := 448) (hi := 511) e32 rl_448 rA1 (by decide)).1; have o3 := r_2; have o4 := r_3; have o5 := r_1; have o6 := rA1; have l7 := tl_256; have l8 := tl_320; have l9 := tl_448; unfold q_r at o3 o4 o5 o6; omega)])⟩
def kB_X12_road_raw_85 (rec85 : (Int → fx_U → Int × fx_U)) (bn : Nat) (p85_2 : Int) (w85 : fx_U) : Int × fx_U :=
  (if p85_2 < 2 then fx_lt (516 + p85_2) fun v98 => fx_ls (fx_pt w85 bn v98.toNat 0) fun u100 => fx_lt (520 + p85_2) fun v109 => fx_ls (fx_pt u100 bn v109.toNat (-2)) fun u112 => fx_lt (p85_2 + 1) fun v113 => rec85 v113 u112 else (1, w85))
def kL_X12_road_raw_85 (bn : Nat) : Nat → Int → fx_U → Int × fx_U
  | 0, _, _ => (0, fun _ _ => 0)
  | n + 1, p85_2, w85 => kB_X12_road_raw_85 (kL_X12_road_raw_85 bn n) bn p85_2 w85
def kB_X12_road_raw_24 (rec24 : (Int → fx_U → Int × fx_U)) (bn : Nat) (a0 : Nat) (p24_2 : Int) (w24 : fx_U) : Int × fx_U :=
  (if p24_2 < 64 then fx_lt (0 + p24_2) fun v36 => fx_ls (fx_pt w24 bn v36.toNat 0) fun u38 => fx_lt (64 + p24_2) fun v46 => fx_ls (fx_pt u38 bn v46.toNat 0) fun u48 => fx_lt (128 + p24_2) fun v57 => fx_ls (fx_pt u48 bn v57.toNat 0) fun u59 => fx_lt (192 + p24_2) fun v68 => fx_ls (fx_pt u59 bn v68.toNat (-100)) fun u71 => fx_ls (f_X12_bares_raw u71 a0 p24_2) fun u74 => fx_lt (p24_2 + 1) fun v77 => rec24 v77 u74 else kL_X12_road_raw_85 bn (Int.toNat (2 - 0) + 1) 0 w24)
def kL_X12_road_raw_24 (bn : Nat) (a0 : Nat) : Nat → Int → fx_U → Int × fx_U
  | 0, _, _ => (0, fun _ _ => 0)
  | n + 1, p24_2, w24 => kB_X12_road_raw_24 (kL_X12_road_raw_24 bn a0 n) bn a0 p24_2 w24
def f_X12_road_raw (u : fx_U) (a0 : Nat) (x1 : Int) : Int × fx_U :=
  fx_lr (u a0 0) fun bn => fx_lt (f_X12_in u x1 8 64) fun v5 => (if v5 = 0 then (0, u) else fx_ls (fx_pt u bn (Int.toNat 512) x1) fun u21 => kL_X12_road_raw_24 bn a0 (Int.toNat (64 - 0) + 1) 0 u21)
def md_X12_road_raw : List (Nat × Nat) := [(103, 0)]
set_option maxRecDepth 100000 in
set_option maxHeartbeats 4000000 in
theorem c_X12_road_raw {l : Launch} {D : q_D} (τ : q_T) (σ : q_V) (a0 : Nat) (x1 : Int32) (hI : q_I τ σ) (tA0 : τ a0 = some (10, 0)) (rA1 : q_r x1 16 16) (bn : Nat) (hbn : σ a0 0 = .ref bn) (Tbn : τ bn = some (103, 549)) (hz : ∀ j : Nat, j < 64 → ∃ x : Int32, σ bn j = .int x ∧ q_r x (-99) 99) : q_Ci l D yX12_road cX12_road 3 (some .boolean) 1 22 τ σ [.ref a0, .int x1] (fun r σ1 => q_S md_X12_road_raw τ σ σ1 ∧ (q_r r 0 1) ∧ ((r.toInt, fx_N σ1) = f_X12_road_raw (fx_N σ) a0 x1.toInt) ∧ (∀ j : Nat, j < 549 → q_v τ (q_f 100 j) (σ1 bn j)) ∧ (σ1 bn 512 = .int x1) ∧ (zz_qz σ1 bn 64)) := by
  refine q_meti rfl (Nat.le_of_ble_eq_true rfl) (fun X hG hE => ?_)
  show q_O X 0 0 τ σ 0 [(0, .ref a0), (1, .int x1)] []
  have hS0 : q_S md_X12_road_raw τ σ σ := q_S.rf hI
  obtain ⟨Fv, hF⟩ : ∃ z, fx_eq z (f_X12_road_raw (fx_N σ) a0 x1.toInt) := ⟨_, fx_rf⟩
  have hF0 := hF
  unfold f_X12_road_raw at hF
  replace hF := fx_R hF hbn rfl
  refine q_iload_n (pc := 0) hG dX12_road_0 1 rfl ?_
  refine q_bipush (pc := 1) hG dX12_road_1 kb_8 ?_
  refine q_bipush (pc := 3) hG dX12_road_3 kb_64 ?_
  refine q_pS (pc := 5) [.int x1, .int 8, .int 64] [] hG (c_X12_in τ σ x1 8 64 hI) my_X12_in w778 w777 dX12_road_5 rfl rfl (Nat.le_of_ble_eq_true rfl) (by decide) (fun v5 p5 => ?_)
  have fq5 := p5.2.1
  rewrite [tl_8, tl_64] at fq5
  replace hF := fx_E hF fq5
  refine q_if_ne (pc := 8) hG 13 dX12_road_8 rfl ?_ ?_
  · intro c8
    have g_1 := p5.2.2.mp (q_one p5.1 c8)
    replace hF := fx_eq2 hF rfl rfl c8
    refine q_aload_n (pc := 13) hG dX12_road_13 0 rfl ?_
    refine q_getV (pc := 14) (v := .ref bn) hG fl_X12_7 dX12_road_14 tA0 hbn ?_
    refine q_sipush (pc := 17) hG dX12_road_17 ks_512 ?_
    refine q_iload_n (pc := 20) hG dX12_road_20 1 rfl ?_
    refine q_iast (pc := 21) hG dX12_road_21 hS0 ai_103 Tbn (q_ix rl_512 (by decide)) rA1 (by decide) rfl (fun s21 u21 w21 => ?_)
    replace hF := fx_P hF u21 (congrArg Int.toNat tl_512) rfl
    have m21 : s21 bn (512 : Int32).toInt.toNat = .int x1 := by rw [u21]; exact q_up_same
    refine q_iconst (pc := 22) hG dX12_road_22 ki_0 ?_
    refine q_istore_n (pc := 23) [(2, .int 0), (0, .ref a0), (1, .int x1)] hG dX12_road_23 (by decide) rfl ?_
    have J24 : ∀ (n24 : Nat) (p24_2 : Int32) (σ24 : q_V), (q_r p24_2 0 64) → (q_S md_X12_road_raw τ σ σ24) → (q_n0 (σ24 bn) x1) → (zz_qz σ24 bn p24_2.toInt) → (fx_eq Fv (kL_X12_road_raw_24 bn a0 n24 p24_2.toInt (fx_N σ24))) → ((64 - p24_2.toInt).toNat < n24) → q_O X 0 0 τ σ24 24 [(0, .ref a0), (2, .int p24_2)] [] := by
      intro n24
      induction n24 with
      | zero => intro p24_2 σ24 r24_2 hS24 iN24 iQZ24 hF hm24; exact absurd hm24 (Nat.not_lt_zero _)
      | succ n24 ih24 =>
        intro p24_2 σ24 r24_2 hS24 iN24 iQZ24 hF hm24
        replace hF := (show fx_eq Fv (kB_X12_road_raw_24 (kL_X12_road_raw_24 bn a0 n24) bn a0 p24_2.toInt (fx_N σ24)) from hF)
        unfold kB_X12_road_raw_24 at hF
        refine q_iload_n (pc := 24) hG dX12_road_24 1 rfl ?_
        refine q_bipush (pc := 25) hG dX12_road_25 kb_64 ?_
        refine q_icmp_ge (pc := 27) hG 83 dX12_road_27 rfl ?_ ?_
        · intro c27
          replace hF := fx_lt2 hF rfl tl_64 c27
          refine q_iconst (pc := 83) hG dX12_road_83 ki_0 ?_
          refine q_istore_n (pc := 84) [(2, .int 0), (0, .ref a0)] hG dX12_road_84 (by decide) rfl ?_
          have J85 : ∀ (n85 : Nat) (p85_2 : Int32) (σ85 : q_V), (q_r p85_2 0 2) → (q_S md_X12_road_raw τ σ σ85) → (q_n0 (σ85 bn) x1 ∧ (0 < p85_2.toInt → σ85 bn 520 = .int (-2)) ∧ (1 < p85_2.toInt → σ85 bn 521 = .int (-2))) → (zz_qz σ85 bn 64) → (fx_eq Fv (kL_X12_road_raw_85 bn n85 p85_2.toInt (fx_N σ85))) → ((2 - p85_2.toInt).toNat < n85) → q_O X 0 0 τ σ85 85 [(0, .ref a0), (2, .int p85_2)] [] := by
            intro n85
            induction n85 with
            | zero => intro p85_2 σ85 r85_2 hS85 iN85 iQZ85 hF hm85; exact absurd hm85 (Nat.not_lt_zero _)
            | succ n85 ih85 =>
              intro p85_2 σ85 r85_2 hS85 iN85 iQZ85 hF hm85
              replace hF := (show fx_eq Fv (kB_X12_road_raw_85 (kL_X12_road_raw_85 bn n85) bn p85_2.toInt (fx_N σ85)) from hF)
              unfold kB_X12_road_raw_85 at hF
              refine q_iload_n (pc := 85) hG dX12_road_85 1 rfl ?_
              refine q_iconst (pc := 86) hG dX12_road_86 ki_2 ?_
              refine q_icmp_ge (pc := 87) hG 119 dX12_road_87 rfl ?_ ?_
              · intro c87
                replace hF := fx_lt2 hF rfl tl_2 c87
                refine q_iconst (pc := 119) hG dX12_road_119 ki_1 ?_
                have r_2 := q_rge r85_2 rl_2 c87
                exact q_zrt hG hE dX12_road_120 (q_r.mono rl_1 (by decide)) ⟨hS85, (q_r.mono rl_1 (by decide)), (by rw [tl_1]; exact fx_end hF hF0), q_n0.all iN85.1 (q_r.mono rA1 (by decide)) (iN85.2.1 (by have o0 := c87; have o1 := r_2; have l2 := tl_2; unfold q_r at o1; omega)) (iN85.2.2 (by have o0 := c87; have o1 := r_2; have l2 := tl_2; unfold q_r at o1; omega)) hS85.1 Tbn, iN85.1.1, iQZ85⟩
              intro c87
              replace hF := fx_lt1 hF rfl tl_2 c87
              refine q_aload_n (pc := 90) hG dX12_road_90 0 rfl ?_
              refine q_getV (pc := 91) (v := .ref bn) hG fl_X12_7 dX12_road_91 tA0 (hS85.same tA0 rfl hbn) ?_
              refine q_sipush (pc := 94) hG dX12_road_94 ks_516 ?_
              refine q_iload_n (pc := 97) hG dX12_road_97 1 rfl ?_
              refine q_iadd (pc := 98) hG dX12_road_98 (fun v98 e98 => ?_)
              have r_3 := q_rlt r85_2 rl_2 c87 1 (by decide)
              replace hF := fx_add hF tl_516 rfl (q_addN (lo := 516) (hi := 517) e98 rl_516 r_3 (by decide)).1
              refine q_iconst (pc := 99) hG dX12_road_99 ki_0 ?_
              have r_4 := (q_addN (lo := 516) (hi := 517) e98 rl_516 r_3 (by decide)).2
              refine q_iast (pc := 100) hG dX12_road_100 hS85 ai_103 Tbn (q_ix r_4 (by decide)) rl_0 (by decide) rfl (fun s100 u100 w100 => ?_)
              replace hF := fx_P hF u100 rfl tl_0
              have m100 : s100 bn v98.toInt.toNat = .int 0 := by rw [u100]; exact q_up_same
              refine q_aload_n (pc := 101) hG dX12_road_101 0 rfl ?_
              refine q_getV (pc := 102) (v := .ref bn) hG fl_X12_7 dX12_road_102 tA0 (w100.same tA0 rfl hbn) ?_
              refine q_sipush (pc := 105) hG dX12_road_105 ks_520 ?_
              refine q_iload_n (pc := 108) hG dX12_road_108 1 rfl ?_
              refine q_iadd (pc := 109) hG dX12_road_109 (fun v109 e109 => ?_)
              replace hF := fx_add hF tl_520 rfl (q_addN (lo := 520) (hi := 521) e109 rl_520 r_3 (by decide)).1
              refine q_bipush (pc := 110) hG dX12_road_110 kb_m2 ?_
              have r_5 := (q_addN (lo := 520) (hi := 521) e109 rl_520 r_3 (by decide)).2
              refine q_iast (pc := 112) hG dX12_road_112 w100 ai_103 Tbn (q_ix r_5 (by decide)) rl_m2 (by decide) rfl (fun s112 u112 w112 => ?_)
              replace hF := fx_P hF u112 rfl tl_m2
              have m112 : s112 bn v109.toInt.toNat = .int (-2) := by rw [u112]; exact q_up_same
              obtain ⟨v113, e113⟩ : ∃ z : Int32, z = p85_2 + Int32.ofInt 1 := ⟨_, rfl⟩
              have h113 := q_incN (lo := 1) (hi := 2) r_3 (by decide) (by decide) e113
              replace hF := fx_add hF rfl rfl h113.1
              refine q_iinc (pc := 113) [(2, .int v113), (0, .ref a0)] hG dX12_road_113 1 rfl e113 (by decide) rfl ?_
              refine q_goto (pc := 116) 85 hG dX12_road_116 rfl ?_
              refine q_lv [1, 0] rfl ?_
              exact ih85 v113 s112 (q_r.mono h113.2 (by decide)) w112 ⟨(q_n0.put (show s112 bn = updV (s100 bn) v109.toInt.toNat (.int (-2)) from (by rw [u112]; exact q_upF)) (q_n0.put (show s100 bn = updV (σ85 bn) v98.toInt.toNat (.int 0) from (by rw [u100]; exact q_upF)) iN85.1 (by have o0 := c87; have o1 := (q_addN (lo := 516) (hi := 517) e98 rl_516 r_3 (by decide)).1; have o2 := (q_addN (lo := 520) (hi := 521) e109 rl_520 r_3 (by decide)).1; have o3 := h113.1; have o4 := r_3; have o5 := r_5; have o6 := h113.2; have o7 := r_4; have l8 := tl_2; have l9 := tl_516; have l10 := tl_520; unfold q_r at o4 o5 o6 o7; omega) (fun _ => q_r.mono rl_0 (by decide))) (by have o0 := c87; have o1 := (q_addN (lo := 516) (hi := 517) e98 rl_516 r_3 (by decide)).1; have o2 := (q_addN (lo := 520) (hi := 521) e109 rl_520 r_3 (by decide)).1; have o3 := h113.1; have o4 := r_3; have o5 := r_5; have o6 := h113.2; have o7 := r_4; have l8 := tl_2; have l9 := tl_516; have l10 := tl_520; unfold q_r at o4 o5 o6 o7; omega) (fun q => absurd q (by have o0 := c87; have o1 := (q_addN (lo := 516) (hi := 517) e98 rl_516 r_3 (by decide)).1; have o2 := (q_addN (lo := 520) (hi := 521) e109 rl_520 r_3 (by decide)).1; have o3 := h113.1; have o4 := r_3; have o5 := r_5; have o6 := h113.2; have o7 := r_4; have l8 := tl_2; have l9 := tl_516; have l10 := tl_520; unfold q_r at o4 o5 o6 o7; omega))), (fun q => Classical.byCases (fun e : v109.toInt.toNat = 520 => by rw [← e]; exact m112) (fun e => by rw [u112, q_up_slot (Ne.symm e), u100, q_up_slot (by have o0 := c87; have o1 := (q_addN (lo := 516) (hi := 517) e98 rl_516 r_3 (by decide)).1; have o2 := (q_addN (lo := 520) (hi := 521) e109 rl_520 r_3 (by decide)).1; have o3 := h113.1; have o4 := r_3; have o5 := r_5; have o6 := h113.2; have o7 := r_4; have l8 := tl_2; have l9 := tl_516; have l10 := tl_520; unfold q_r at o4 o5 o6 o7; omega)]; exact iN85.2.1 (by have o0 := c87; have o1 := (q_addN (lo := 516) (hi := 517) e98 rl_516 r_3 (by decide)).1; have o2 := (q_addN (lo := 520) (hi := 521) e109 rl_520 r_3 (by decide)).1; have o3 := h113.1; have o4 := r_3; have o5 := r_5; have o6 := h113.2; have o7 := r_4; have l8 := tl_2; have l9 := tl_516; have l10 := tl_520; have o11 := q; unfold q_r at o4 o5 o6 o7; have e2 := e; omega))), (fun q => Classical.byCases (fun e : v109.toInt.toNat = 521 => by rw [← e]; exact m112) (fun e => by rw [u112, q_up_slot (Ne.symm e), u100, q_up_slot (by have o0 := c87; have o1 := (q_addN (lo := 516) (hi := 517) e98 rl_516 r_3 (by decide)).1; have o2 := (q_addN (lo := 520) (hi := 521) e109 rl_520 r_3 (by decide)).1; have o3 := h113.1; have o4 := r_3; have o5 := r_5; have o6 := h113.2; have o7 := r_4; have l8 := tl_2; have l9 := tl_516; have l10 := tl_520; unfold q_r at o4 o5 o6 o7; omega)]; exact iN85.2.2 (by have o0 := c87; have o1 := (q_addN (lo := 516) (hi := 517) e98 rl_516 r_3 (by decide)).1; have o2 := (q_addN (lo := 520) (hi := 521) e109 rl_520 r_3 (by decide)).1; have o3 := h113.1; have o4 := r_3; have o5 := r_5; have o6 := h113.2; have o7 := r_4; have l8 := tl_2; have l9 := tl_516; have l10 := tl_520; have o11 := q; unfold q_r at o4 o5 o6 o7; have e2 := e; omega)))⟩ (zz_qz.kr iQZ85 (by decide) (fun j hj => by rw [u112, q_up_slot (by have o0 := c87; have o1 := (q_addN (lo := 516) (hi := 517) e98 rl_516 r_3 (by decide)).1; have o2 := (q_addN (lo := 520) (hi := 521) e109 rl_520 r_3 (by decide)).1; have o3 := h113.1; have o4 := r_3; have o5 := r_5; have o6 := h113.2; have o7 := r_4; have l8 := tl_2; have l9 := tl_516; have l10 := tl_520; have o11 := hj; unfold q_r at o4 o5 o6 o7; omega), u100, q_up_slot (by have o0 := c87; have o1 := (q_addN (lo := 516) (hi := 517) e98 rl_516 r_3 (by decide)).1; have o2 := (q_addN (lo := 520) (hi := 521) e109 rl_520 r_3 (by decide)).1; have o3 := h113.1; have o4 := r_3; have o5 := r_5; have o6 := h113.2; have o7 := r_4; have l8 := tl_2; have l9 := tl_516; have l10 := tl_520; have o11 := hj; unfold q_r at o4 o5 o6 o7; omega)])) hF (q_measU hm85 (by have o0 := c87; have o1 := (q_addN (lo := 516) (hi := 517) e98 rl_516 r_3 (by decide)).1; have o2 := (q_addN (lo := 520) (hi := 521) e109 rl_520 r_3 (by decide)).1; have o3 := h113.1; have o4 := r_3; have o5 := r_5; have o6 := h113.2; have o7 := r_4; have l8 := tl_2; have l9 := tl_516; have l10 := tl_520; unfold q_r at o4 o5 o6 o7; omega) (h113.2).2)
          refine q_lv [1, 0] rfl ?_
          have r_6 := q_rge r24_2 rl_64 c27
          exact J85 ((2 - (0 : Int32).toInt).toNat + 1) 0 σ24 (q_r.mono rl_0 (by decide)) hS24 ⟨iN24, fun q => absurd q (by have l0 := tl_0; omega), fun q => absurd q (by have l0 := tl_0; omega)⟩ (zz_qz.le iQZ24 (by have o0 := c27; have o1 := r_6; have l2 := tl_64; unfold q_r at o1; omega)) (by rw [tl_0]; exact hF) (Nat.lt_succ_self _)
        intro c27
        replace hF := fx_lt1 hF rfl tl_64 c27
        refine q_aload_n (pc := 30) hG dX12_road_30 0 rfl ?_
        refine q_getV (pc := 31) (v := .ref bn) hG fl_X12_7 dX12_road_31 tA0 (hS24.same tA0 rfl hbn) ?_
        refine q_iconst (pc := 34) hG dX12_road_34 ki_0 ?_
        refine q_iload_n (pc := 35) hG dX12_road_35 1 rfl ?_
        refine q_iadd (pc := 36) hG dX12_road_36 (fun v36 e36 => ?_)
        have r_7 := q_rlt r24_2 rl_64 c27 63 (by decide)
        replace hF := fx_add hF tl_0 rfl (q_addN (lo := 0) (hi := 63) e36 rl_0 r_7 (by decide)).1
        refine q_iconst (pc := 37) hG dX12_road_37 ki_0 ?_
        have r_8 := (q_addN (lo := 0) (hi := 63) e36 rl_0 r_7 (by decide)).2
        refine q_iast (pc := 38) hG dX12_road_38 hS24 ai_103 Tbn (q_ix r_8 (by decide)) rl_0 (by decide) rfl (fun s38 u38 w38 => ?_)
        replace hF := fx_P hF u38 rfl tl_0
        have m38 : s38 bn v36.toInt.toNat = .int 0 := by rw [u38]; exact q_up_same
        refine q_aload_n (pc := 39) hG dX12_road_39 0 rfl ?_
        refine q_getV (pc := 40) (v := .ref bn) hG fl_X12_7 dX12_road_40 tA0 (w38.same tA0 rfl hbn) ?_
        refine q_bipush (pc := 43) hG dX12_road_43 kb_64 ?_
        refine q_iload_n (pc := 45) hG dX12_road_45 1 rfl ?_
        refine q_iadd (pc := 46) hG dX12_road_46 (fun v46 e46 => ?_)
        replace hF := fx_add hF tl_64 rfl (q_addN (lo := 64) (hi := 127) e46 rl_64 r_7 (by decide)).1
        refine q_iconst (pc := 47) hG dX12_road_47 ki_0 ?_
        have r_9 := (q_addN (lo := 64) (hi := 127) e46 rl_64 r_7 (by decide)).2
        refine q_iast (pc := 48) hG dX12_road_48 w38 ai_103 Tbn (q_ix r_9 (by decide)) rl_0 (by decide) rfl (fun s48 u48 w48 => ?_)
        replace hF := fx_P hF u48 rfl tl_0
        have m48 : s48 bn v46.toInt.toNat = .int 0 := by rw [u48]; exact q_up_same
        refine q_aload_n (pc := 49) hG dX12_road_49 0 rfl ?_
        refine q_getV (pc := 50) (v := .ref bn) hG fl_X12_7 dX12_road_50 tA0 (w48.same tA0 rfl hbn) ?_
        refine q_sipush (pc := 53) hG dX12_road_53 ks_128 ?_
        refine q_iload_n (pc := 56) hG dX12_road_56 1 rfl ?_
        refine q_iadd (pc := 57) hG dX12_road_57 (fun v57 e57 => ?_)
        replace hF := fx_add hF tl_128 rfl (q_addN (lo := 128) (hi := 191) e57 rl_128 r_7 (by decide)).1
        refine q_iconst (pc := 58) hG dX12_road_58 ki_0 ?_
        have r_10 := (q_addN (lo := 128) (hi := 191) e57 rl_128 r_7 (by decide)).2
        refine q_iast (pc := 59) hG dX12_road_59 w48 ai_103 Tbn (q_ix r_10 (by decide)) rl_0 (by decide) rfl (fun s59 u59 w59 => ?_)
        replace hF := fx_P hF u59 rfl tl_0
        have m59 : s59 bn v57.toInt.toNat = .int 0 := by rw [u59]; exact q_up_same
        refine q_aload_n (pc := 60) hG dX12_road_60 0 rfl ?_
        refine q_getV (pc := 61) (v := .ref bn) hG fl_X12_7 dX12_road_61 tA0 (w59.same tA0 rfl hbn) ?_
        refine q_sipush (pc := 64) hG dX12_road_64 ks_192 ?_
        refine q_iload_n (pc := 67) hG dX12_road_67 1 rfl ?_
        refine q_iadd (pc := 68) hG dX12_road_68 (fun v68 e68 => ?_)
        replace hF := fx_add hF tl_192 rfl (q_addN (lo := 192) (hi := 255) e68 rl_192 r_7 (by decide)).1
        refine q_bipush (pc := 69) hG dX12_road_69 kb_m100 ?_
        have r_11 := (q_addN (lo := 192) (hi := 255) e68 rl_192 r_7 (by decide)).2
        refine q_iast (pc := 71) hG dX12_road_71 w59 ai_103 Tbn (q_ix r_11 (by decide)) rl_m100 (by decide) rfl (fun s71 u71 w71 => ?_)
        replace hF := fx_P hF u71 rfl tl_m100
        have m71 : s71 bn v68.toInt.toNat = .int (-100) := by rw [u71]; exact q_up_same
        refine q_aload_n (pc := 72) hG dX12_road_72 0 rfl ?_
        refine q_iload_n (pc := 73) hG dX12_road_73 1 rfl ?_
        refine q_cVv (pc := 74) [.int p24_2] [] hG (c_X12_bares_raw τ s71 a0 p24_2 w71.1 tA0 r_7 bn (w71.same tA0 rfl hbn) Tbn) my_X12_bares mv_X12_bares w780 dX12_road_74 tA0 (by decide) rfl rfl (Nat.le_of_ble_eq_true rfl) (by decide) (fun s74 p74 => ?_)
        have w74 := w71.trans p74.1 rfl
        replace hF := fx_S hF p74.2.1
        obtain ⟨v77, e77⟩ : ∃ z : Int32, z = p24_2 + Int32.ofInt 1 := ⟨_, rfl⟩
        have h77 := q_incN (lo := 1) (hi := 64) r_7 (by decide) (by decide) e77
        replace hF := fx_add hF rfl rfl h77.1
        refine q_iinc (pc := 77) [(2, .int v77), (0, .ref a0)] hG dX12_road_77 1 rfl e77 (by decide) rfl ?_
        refine q_goto (pc := 80) 24 hG dX12_road_80 rfl ?_
        refine q_lv [1, 0] rfl ?_
        exact ih24 v77 s74 (q_r.mono h77.2 (by decide)) w74 (q_n0.same p74.2.2.1 (q_n0.put (show s71 bn = updV (s59 bn) v68.toInt.toNat (.int (-100)) from (by rw [u71]; exact q_upF)) (q_n0.put (show s59 bn = updV (s48 bn) v57.toInt.toNat (.int 0) from (by rw [u59]; exact q_upF)) (q_n0.put (show s48 bn = updV (s38 bn) v46.toInt.toNat (.int 0) from (by rw [u48]; exact q_upF)) (q_n0.put (show s38 bn = updV (σ24 bn) v36.toInt.toNat (.int 0) from (by rw [u38]; exact q_upF)) iN24 (by have o0 := c27; have o1 := (q_addN (lo := 0) (hi := 63) e36 rl_0 r_7 (by decide)).1; have o2 := (q_addN (lo := 64) (hi := 127) e46 rl_64 r_7 (by decide)).1; have o3 := (q_addN (lo := 128) (hi := 191) e57 rl_128 r_7 (by decide)).1; have o4 := (q_addN (lo := 192) (hi := 255) e68 rl_192 r_7 (by decide)).1; have o5 := h77.1; have o6 := r_7; have o7 := r_8; have o8 := r_9; have o9 := r_10; have o10 := r_11; have o11 := h77.2; have l12 := tl_0; have l13 := tl_64; have l14 := tl_128; have l15 := tl_192; unfold q_r at o6 o7 o8 o9 o10 o11; omega) (fun _ => q_r.mono rl_0 (by decide))) (by have o0 := c27; have o1 := (q_addN (lo := 0) (hi := 63) e36 rl_0 r_7 (by decide)).1; have o2 := (q_addN (lo := 64) (hi := 127) e46 rl_64 r_7 (by decide)).1; have o3 := (q_addN (lo := 128) (hi := 191) e57 rl_128 r_7 (by decide)).1; have o4 := (q_addN (lo := 192) (hi := 255) e68 rl_192 r_7 (by decide)).1; have o5 := h77.1; have o6 := r_7; have o7 := r_8; have o8 := r_9; have o9 := r_10; have o10 := r_11; have o11 := h77.2; have l12 := tl_0; have l13 := tl_64; have l14 := tl_128; have l15 := tl_192; unfold q_r at o6 o7 o8 o9 o10 o11; omega) (fun _ => q_r.mono rl_0 (by decide))) (by have o0 := c27; have o1 := (q_addN (lo := 0) (hi := 63) e36 rl_0 r_7 (by decide)).1; have o2 := (q_addN (lo := 64) (hi := 127) e46 rl_64 r_7 (by decide)).1; have o3 := (q_addN (lo := 128) (hi := 191) e57 rl_128 r_7 (by decide)).1; have o4 := (q_addN (lo := 192) (hi := 255) e68 rl_192 r_7 (by decide)).1; have o5 := h77.1; have o6 := r_7; have o7 := r_8; have o8 := r_9; have o9 := r_10; have o10 := r_11; have o11 := h77.2; have l12 := tl_0; have l13 := tl_64; have l14 := tl_128; have l15 := tl_192; unfold q_r at o6 o7 o8 o9 o10 o11; omega) (fun _ => q_r.mono rl_0 (by decide))) (by have o0 := c27; have o1 := (q_addN (lo := 0) (hi := 63) e36 rl_0 r_7 (by decide)).1; have o2 := (q_addN (lo := 64) (hi := 127) e46 rl_64 r_7 (by decide)).1; have o3 := (q_addN (lo := 128) (hi := 191) e57 rl_128 r_7 (by decide)).1; have o4 := (q_addN (lo := 192) (hi := 255) e68 rl_192 r_7 (by decide)).1; have o5 := h77.1; have o6 := r_7; have o7 := r_8; have o8 := r_9; have o9 := r_10; have o10 := r_11; have o11 := h77.2; have l12 := tl_0; have l13 := tl_64; have l14 := tl_128; have l15 := tl_192; unfold q_r at o6 o7 o8 o9 o10 o11; omega) (fun q => absurd q (by have o0 := c27; have o1 := (q_addN (lo := 0) (hi := 63) e36 rl_0 r_7 (by decide)).1; have o2 := (q_addN (lo := 64) (hi := 127) e46 rl_64 r_7 (by decide)).1; have o3 := (q_addN (lo := 128) (hi := 191) e57 rl_128 r_7 (by decide)).1; have o4 := (q_addN (lo := 192) (hi := 255) e68 rl_192 r_7 (by decide)).1; have o5 := h77.1; have o6 := r_7; have o7 := r_8; have o8 := r_9; have o9 := r_10; have o10 := r_11; have o11 := h77.2; have l12 := tl_0; have l13 := tl_64; have l14 := tl_128; have l15 := tl_192; unfold q_r at o6 o7 o8 o9 o10 o11; omega)))) (zz_qz.le (zz_qz.kr (zz_qz.kr (zz_qz.it iQZ24 (show q_r p24_2 0 63 from (by unfold q_r; have o0 := c27; have o1 := (q_addN (lo := 0) (hi := 63) e36 rl_0 r_7 (by decide)).1; have o2 := (q_addN (lo := 64) (hi := 127) e46 rl_64 r_7 (by decide)).1; have o3 := (q_addN (lo := 128) (hi := 191) e57 rl_128 r_7 (by decide)).1; have o4 := (q_addN (lo := 192) (hi := 255) e68 rl_192 r_7 (by decide)).1; have o5 := h77.1; have o6 := r_7; have o7 := r_8; have o8 := r_9; have o9 := r_10; have o10 := r_11; have o11 := h77.2; have l12 := tl_0; have l13 := tl_64; have l14 := tl_128; have l15 := tl_192; unfold q_r at o6 o7 o8 o9 o10 o11; omega)) u38 u48 u59 (by have o0 := c27; have o1 := (q_addN (lo := 0) (hi := 63) e36 rl_0 r_7 (by decide)).1; have o2 := (q_addN (lo := 64) (hi := 127) e46 rl_64 r_7 (by decide)).1; have o3 := (q_addN (lo := 128) (hi := 191) e57 rl_128 r_7 (by decide)).1; have o4 := (q_addN (lo := 192) (hi := 255) e68 rl_192 r_7 (by decide)).1; have o5 := h77.1; have o6 := r_7; have o7 := r_8; have o8 := r_9; have o9 := r_10; have o10 := r_11; have o11 := h77.2; have l12 := tl_0; have l13 := tl_64; have l14 := tl_128; have l15 := tl_192; unfold q_r at o6 o7 o8 o9 o10 o11; omega) (by have o0 := c27; have o1 := (q_addN (lo := 0) (hi := 63) e36 rl_0 r_7 (by decide)).1; have o2 := (q_addN (lo := 64) (hi := 127) e46 rl_64 r_7 (by decide)).1; have o3 := (q_addN (lo := 128) (hi := 191) e57 rl_128 r_7 (by decide)).1; have o4 := (q_addN (lo := 192) (hi := 255) e68 rl_192 r_7 (by decide)).1; have o5 := h77.1; have o6 := r_7; have o7 := r_8; have o8 := r_9; have o9 := r_10; have o10 := r_11; have o11 := h77.2; have l12 := tl_0; have l13 := tl_64; have l14 := tl_128; have l15 := tl_192; unfold q_r at o6 o7 o8 o9 o10 o11; omega) (by have o0 := c27; have o1 := (q_addN (lo := 0) (hi := 63) e36 rl_0 r_7 (by decide)).1; have o2 := (q_addN (lo := 64) (hi := 127) e46 rl_64 r_7 (by decide)).1; have o3 := (q_addN (lo := 128) (hi := 191) e57 rl_128 r_7 (by decide)).1; have o4 := (q_addN (lo := 192) (hi := 255) e68 rl_192 r_7 (by decide)).1; have o5 := h77.1; have o6 := r_7; have o7 := r_8; have o8 := r_9; have o9 := r_10; have o10 := r_11; have o11 := h77.2; have l12 := tl_0; have l13 := tl_64; have l14 := tl_128; have l15 := tl_192; unfold q_r at o6 o7 o8 o9 o10 o11; omega)) (by have o0 := c27; have o1 := (q_addN (lo := 0) (hi := 63) e36 rl_0 r_7 (by decide)).1; have o2 := (q_addN (lo := 64) (hi := 127) e46 rl_64 r_7 (by decide)).1; have o3 := (q_addN (lo := 128) (hi := 191) e57 rl_128 r_7 (by decide)).1; have o4 := (q_addN (lo := 192) (hi := 255) e68 rl_192 r_7 (by decide)).1; have o5 := h77.1; have o6 := r_7; have o7 := r_8; have o8 := r_9; have o9 := r_10; have o10 := r_11; have o11 := h77.2; have l12 := tl_0; have l13 := tl_64; have l14 := tl_128; have l15 := tl_192; unfold q_r at o6 o7 o8 o9 o10 o11; omega) (fun j hj => by rw [u71, q_up_slot (by have o0 := c27; have o1 := (q_addN (lo := 0) (hi := 63) e36 rl_0 r_7 (by decide)).1; have o2 := (q_addN (lo := 64) (hi := 127) e46 rl_64 r_7 (by decide)).1; have o3 := (q_addN (lo := 128) (hi := 191) e57 rl_128 r_7 (by decide)).1; have o4 := (q_addN (lo := 192) (hi := 255) e68 rl_192 r_7 (by decide)).1; have o5 := h77.1; have o6 := r_7; have o7 := r_8; have o8 := r_9; have o9 := r_10; have o10 := r_11; have o11 := h77.2; have l12 := tl_0; have l13 := tl_64; have l14 := tl_128; have l15 := tl_192; have o16 := hj; unfold q_r at o6 o7 o8 o9 o10 o11; omega)])) (by have o0 := c27; have o1 := (q_addN (lo := 0) (hi := 63) e36 rl_0 r_7 (by decide)).1; have o2 := (q_addN (lo := 64) (hi := 127) e46 rl_64 r_7 (by decide)).1; have o3 := (q_addN (lo := 128) (hi := 191) e57 rl_128 r_7 (by decide)).1; have o4 := (q_addN (lo := 192) (hi := 255) e68 rl_192 r_7 (by decide)).1; have o5 := h77.1; have o6 := r_7; have o7 := r_8; have o8 := r_9; have o9 := r_10; have o10 := r_11; have o11 := h77.2; have l12 := tl_0; have l13 := tl_64; have l14 := tl_128; have l15 := tl_192; unfold q_r at o6 o7 o8 o9 o10 o11; omega) p74.2.2.2) (by have o0 := c27; have o1 := (q_addN (lo := 0) (hi := 63) e36 rl_0 r_7 (by decide)).1; have o2 := (q_addN (lo := 64) (hi := 127) e46 rl_64 r_7 (by decide)).1; have o3 := (q_addN (lo := 128) (hi := 191) e57 rl_128 r_7 (by decide)).1; have o4 := (q_addN (lo := 192) (hi := 255) e68 rl_192 r_7 (by decide)).1; have o5 := h77.1; have o6 := r_7; have o7 := r_8; have o8 := r_9; have o9 := r_10; have o10 := r_11; have o11 := h77.2; have l12 := tl_0; have l13 := tl_64; have l14 := tl_128; have l15 := tl_192; unfold q_r at o6 o7 o8 o9 o10 o11; omega)) hF (q_measU hm24 (by have o0 := c27; have o1 := (q_addN (lo := 0) (hi := 63) e36 rl_0 r_7 (by decide)).1; have o2 := (q_addN (lo := 64) (hi := 127) e46 rl_64 r_7 (by decide)).1; have o3 := (q_addN (lo := 128) (hi := 191) e57 rl_128 r_7 (by decide)).1; have o4 := (q_addN (lo := 192) (hi := 255) e68 rl_192 r_7 (by decide)).1; have o5 := h77.1; have o6 := r_7; have o7 := r_8; have o8 := r_9; have o9 := r_10; have o10 := r_11; have o11 := h77.2; have l12 := tl_0; have l13 := tl_64; have l14 := tl_128; have l15 := tl_192; unfold q_r at o6 o7 o8 o9 o10 o11; omega) (h77.2).2)
    refine q_lv [1, 0] rfl ?_
    exact J24 ((64 - (0 : Int32).toInt).toNat + 1) 0 s21 (q_r.mono rl_0 (by decide)) w21 (q_n0.new (show s21 bn = updV (σ bn) (512 : Int32).toInt.toNat (.int x1) from (by rw [u21]; exact q_upF)) hz) (fun j hj => absurd hj (by have q := tl_0; omega)) (by rw [tl_0]; exact hF) (Nat.lt_succ_self _)
  intro c8
  replace hF := fx_eq1 hF rfl rfl c8
  refine q_iconst (pc := 11) hG dX12_road_11 ki_0 ?_
  have r_12 := q_zeq c8
  exact q_zrt hG hE dX12_road_12 (q_r.mono rl_0 (by decide)) ⟨hS0, (q_r.mono rl_0 (by decide)), (by rw [tl_0]; exact fx_end hF hF0), absurd (p5.2.2.mpr (by have o0 := rA1; have l1 := tl_8; have l2 := tl_64; unfold q_r at o0; omega)) (by have o0 := c8; have o1 := r_12; unfold q_r at o1; omega), absurd (p5.2.2.mpr (by have o0 := rA1; have l1 := tl_8; have l2 := tl_64; unfold q_r at o0; omega)) (by have o0 := c8; have o1 := r_12; unfold q_r at o1; omega), absurd (p5.2.2.mpr (by have o0 := rA1; have l1 := tl_8; have l2 := tl_64; unfold q_r at o0; omega)) (by have o0 := c8; have o1 := r_12; unfold q_r at o1; omega)⟩
