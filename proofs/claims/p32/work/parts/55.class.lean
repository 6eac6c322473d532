/-! the class is made -/
theorem zz_lxn {τ τ1 : q_T} {σ σ1 : q_V} {a : Nat} (x : ∀ (b : Nat) (x : Nat × Nat), b ≠ a → τ b = some x → τ1 b = some x ∧ (x = (9, 0) ∨ x = (4, 0) ∨ x = (118, 64) ∨ x = (4, 1) ∨ x = (3, 1) → σ1 b = σ b) ∧ (x = (6, 1) → ∀ j : Nat, j < 4 → σ1 b j = σ b j)) : ∀ (b : Nat) (x : Nat × Nat), b ≠ a → τ b = some x → τ1 b = some x ∧ (x = (9, 0) ∨ x = (4, 0) ∨ x = (118, 64) → σ1 b = σ b) ∧ (x = (6, 1) → ∀ j : Nat, j < 4 → σ1 b j = σ b j) := fun b y h1 h2 => ⟨(x b y h1 h2).1, fun h => (x b y h1 h2).2.1 (h.elim Or.inl fun k => k.elim (fun q => Or.inr (Or.inl q)) fun q => Or.inr (Or.inr (Or.inl q))), (x b y h1 h2).2.2⟩
theorem dX10_init_0 : decode cX10_init 0 = .ok (.aload_n 0, 1) := by decide +kernel
theorem dX10_init_1 : decode cX10_init 1 = .ok (.invokespecial 3, 3) := by decide +kernel
theorem dX10_init_4 : decode cX10_init 4 = .ok (.aload_n 0, 1) := by decide +kernel
theorem dX10_init_5 : decode cX10_init 5 = .ok (.iconst 5, 1) := by decide +kernel
theorem dX10_init_6 : decode cX10_init 6 = .ok (.bipush 65, 2) := by decide +kernel
theorem dX10_init_8 : decode cX10_init 8 = .ok (.multianewarray 9 2, 4) := by decide +kernel
theorem dX10_init_12 : decode cX10_init 12 = .ok (.putfield 11, 3) := by decide +kernel
theorem dX10_init_15 : decode cX10_init 15 = .ok (.aload_n 0, 1) := by decide +kernel
theorem dX10_init_16 : decode cX10_init 16 = .ok (.iconst 4, 1) := by decide +kernel
theorem dX10_init_17 : decode cX10_init 17 = .ok (.newarray .int, 2) := by decide +kernel
theorem dX10_init_19 : decode cX10_init 19 = .ok (.putfield 16, 3) := by decide +kernel
theorem dX10_init_22 : decode cX10_init 22 = .ok (.return_, 1) := by decide +kernel
set_option maxRecDepth 100000 in
set_option maxHeartbeats 4000000 in
theorem c_X10_init {l : Launch} {D : q_D} (τ : q_T) (σ : q_V) (a0 : Nat) (hI : q_I τ σ) (tA0 : τ a0 = some (8, 0)) : q_C l D yX10_init cX10_init 1 none 1 20 7 334 τ σ [.ref a0] q_ev (fun _ τ1 σ1 => (∀ (b : Nat) (x : Nat × Nat), b ≠ a0 → τ b = some x → ∀ i : Nat, fx_N σ1 b i = fx_N σ b i) ∧ q_X1 8 a0 τ σ τ1 σ1) := by
  refine q_met rfl (Nat.le_of_ble_eq_true rfl) (fun X hG hE hnm => ?_)
  show q_O X 0 0 τ σ 0 [(0, .ref a0)] []
  refine q_aload_n (pc := 0) hG dX10_init_0 0 rfl ?_
  refine q_oin (pc := 1) hG w202 w22 w23 dX10_init_1 ⟨by decide, by decide⟩ (by decide) ?_
  refine q_aload_n (pc := 4) hG dX10_init_4 0 rfl ?_
  refine q_iconst (pc := 5) hG dX10_init_5 ki_5 ?_
  refine q_bipush (pc := 6) hG dX10_init_6 kb_65 ?_
  refine q_newAA (pc := 8) hG w203 dX10_init_8 ⟨by decide, by decide⟩ (fun h8 τ8 σ8 T8 x8 I8 => ?_)
  have A8 := x8.1 a0 _ tA0
  have F8 : σ8 a0 = σ a0 := A8.2.trans rfl
  show q_O X 6 330 τ8 σ8 12 [(0, .ref a0)] [.ref h8, .ref a0]
  refine q_putF (pc := 12) hG hnm fl_X10_11 (fun r hr => by cases hr; rfl) dX10_init_12 A8.1 rfl rfl ?_
  obtain ⟨σ12, es12⟩ : ∃ t : q_V, t = q_up σ8 a0 0 (.ref h8) := ⟨_, rfl⟩
  rw [← es12]
  have I12 : q_I τ8 σ12 := by rw [es12]; exact (I8 hI).put A8.1 (fun hj => absurd (show 0 < 0 from hj) (Nat.not_lt_zero _))
  have F12 : σ12 a0 = updV (σ a0) 0 (.ref h8) := by rw [es12, q_upF, F8]
  have x12 : ∀ b, b ≠ a0 → σ12 b = σ8 b := by rw [es12]; exact fun b hb => q_up_ne hb
  show q_O X 6 330 τ8 σ12 15 [(0, .ref a0)] []
  refine q_aload_n (pc := 15) hG dX10_init_15 0 rfl ?_
  refine q_iconst (pc := 16) hG dX10_init_16 ki_4 ?_
  refine q_newA (pc := 17) (k := 141) (N := 4) (aty := .int) hG w36 dX10_init_17 ⟨by decide, by decide, rfl⟩ tl_4 (by decide) ⟨by decide, by decide⟩ (fun h17 n17 => ?_)
  obtain ⟨τ17, et17⟩ : ∃ t : q_T, t = q_tu τ8 h17 (141, 4) := ⟨_, rfl⟩
  obtain ⟨σ17, es17⟩ : ∃ t : q_V, t = q_vu σ12 h17 (fun _ => defaultValue (newarray.typeOf .int)) := ⟨_, rfl⟩
  rw [← et17, ← es17]
  have x17 : q_ex τ8 σ12 τ17 σ17 := by rw [et17, es17]; exact q_ex.mk n17 (Or.inl (by decide))
  have T17 : τ17 h17 = some (141, 4) := by rw [et17]; exact q_tu_new
  have z17 : σ17 h17 = (fun _ => defaultValue (newarray.typeOf .int)) := by rw [es17]; exact q_vu_new
  have I17 : q_I τ17 σ17 := by rw [et17, es17]; exact q_I.mk I12 n17 (fun j _ => (show q_v _ _ (.int 0) from q_vi (ai_141.2.2 j) rl_0 (by decide)))
  have A17 := x17.1 a0 _ A8.1
  have F17 : σ17 a0 = updV (σ a0) 0 (.ref h8) := A17.2.trans F12
  show q_O X 7 334 τ17 σ17 19 [(0, .ref a0)] [.ref h17, .ref a0]
  refine q_putF (pc := 19) hG hnm fl_X10_16 (fun r hr => by cases hr; rfl) dX10_init_19 A17.1 rfl rfl ?_
  obtain ⟨σ19, es19⟩ : ∃ t : q_V, t = q_up σ17 a0 1 (.ref h17) := ⟨_, rfl⟩
  rw [← es19]
  have I19 : q_I τ17 σ19 := by rw [es19]; exact I17.put A17.1 (fun hj => absurd (show 1 < 0 from hj) (Nat.not_lt_zero _))
  have F19 : σ19 a0 = updV (updV (σ a0) 0 (.ref h8)) 1 (.ref h17) := by rw [es19, q_upF, F17]
  have x19 : ∀ b, b ≠ a0 → σ19 b = σ17 b := by rw [es19]; exact fun b hb => q_up_ne hb
  show q_O X 7 334 τ17 σ19 22 [(0, .ref a0)] []
  have FR : ∀ (b : Nat) (x : Nat × Nat), b ≠ a0 → τ b = some x → τ17 b = some x ∧ (x = (9, 0) ∨ x = (4, 0) ∨ x = (118, 64) ∨ x = (4, 1) ∨ x = (3, 1) → σ19 b = σ b) ∧ (x = (6, 1) → ∀ j, j < 4 → σ19 b j = σ b j) := by
    intro b x ba hb
    obtain ⟨y8, v8⟩ := x8.1 b x hb
    obtain ⟨y17, v17⟩ := x17.1 b x y8
    have w17 : b ≠ h17 := fun e => by rw [e, n17] at y8; cases y8
    refine ⟨y17, fun hx => ?_, fun hx => ?_⟩
    · skip
      have u0 : σ b = σ b := rfl
      have u8 := v8.trans u0
      have u12 := (x12 b ba).trans u8
      have u17 := v17.trans u12
      have u19 := (x19 b ba).trans u17
      exact u19
    · intro j hj
      have u0 : σ b j = σ b j := rfl
      have u8 := (congrFun v8 j).trans u0
      have u12 := (congrFun (x12 b ba) j).trans u8
      have u17 := (congrFun v17 j).trans u12
      have u19 := (congrFun (x19 b ba) j).trans u17
      exact u19
  have EX : ∀ (b : Nat) (x : Nat × Nat), b ≠ a0 → τ b = some x → ∀ i : Nat, fx_N σ19 b i = fx_N σ b i := by
    intro b x ba hb i
    have e0 : fx_N σ b i = fx_N σ b i := rfl
    obtain ⟨y8, v8⟩ := x8.1 b x hb
    have e8 := (congrArg fx_num (congrFun v8 i)).trans e0
    have e12 := (congrArg fx_num (congrFun (x12 b ba) i)).trans e8
    obtain ⟨y17, v17⟩ := x17.1 b x y8
    have w17 : b ≠ h17 := fun e => by rw [e, n17] at y8; cases y8
    have e17 := (congrArg fx_num (congrFun v17 i)).trans e12
    have e19 := (congrArg fx_num (congrFun (x19 b ba) i)).trans e17
    exact e19
  have N3 : ∀ b n : Nat, τ17 b = some (103, n) → τ b = some (103, n) := by
    intro b n hb
    have k17 := x17.2 b n hb
    have k8 := x8.2 b n k17
    exact k8
  have HF : ∀ j, j < q_nf 8 → q_v (q_tu τ17 a0 (8, 1)) (q_f 8 j) (σ19 a0 j) := by
    rw [F19]
    intro j hj
    rcases j with _ | j
    · show q_v _ (q_f 8 0) (.ref h8); exact q_vr (k := 400) (n := 5) ff_8_0 ((q_tu_ne (q_neT (x17.1 h8 _ T8).1 A17.1 (by decide))).trans (x17.1 h8 _ T8).1) (by decide)
    rcases j with _ | j
    · show q_v _ (q_f 8 1) (.ref h17); exact q_vr (k := 141) (n := 4) ff_8_1 ((q_tu_ne (q_neT T17 A17.1 (by decide))).trans T17) (by decide)
    exact absurd hj (by show ¬ _ < 2; omega)
  refine q_retype A17.1 (by decide) ?_
  exact q_vret hG hE dX10_init_22 ⟨EX, ⟨I19.made (by decide) A17.1 HF, q_tu_new, fun b x hb h => by rw [q_tu_ne hb]; exact FR b x hb h, fun b n h => Classical.byCases (fun e : b = a0 => by rw [e, q_tu_new] at h; cases h) (fun e => by rw [q_tu_ne e] at h; exact N3 b n h)⟩⟩
theorem dX11_init_0 : decode cX11_init 0 = .ok (.aload_n 0, 1) := by decide +kernel
theorem dX11_init_1 : decode cX11_init 1 = .ok (.invokespecial 1, 3) := by decide +kernel
theorem dX11_init_4 : decode cX11_init 4 = .ok (.aload_n 0, 1) := by decide +kernel
theorem dX11_init_5 : decode cX11_init 5 = .ok (.sipush 260, 3) := by decide +kernel
theorem dX11_init_8 : decode cX11_init 8 = .ok (.newarray .int, 2) := by decide +kernel
theorem dX11_init_10 : decode cX11_init 10 = .ok (.putfield 9, 3) := by decide +kernel
theorem dX11_init_13 : decode cX11_init 13 = .ok (.aload_n 0, 1) := by decide +kernel
theorem dX11_init_14 : decode cX11_init 14 = .ok (.iconst 0, 1) := by decide +kernel
theorem dX11_init_15 : decode cX11_init 15 = .ok (.putfield 13, 3) := by decide +kernel
theorem dX11_init_18 : decode cX11_init 18 = .ok (.aload_n 0, 1) := by decide +kernel
theorem dX11_init_19 : decode cX11_init 19 = .ok (.new 17, 3) := by decide +kernel
theorem dX11_init_22 : decode cX11_init 22 = .ok (.dup, 1) := by decide +kernel
theorem dX11_init_23 : decode cX11_init 23 = .ok (.invokespecial 19, 3) := by decide +kernel
theorem dX11_init_26 : decode cX11_init 26 = .ok (.putfield 20, 3) := by decide +kernel
theorem dX11_init_29 : decode cX11_init 29 = .ok (.aload_n 0, 1) := by decide +kernel
theorem dX11_init_30 : decode cX11_init 30 = .ok (.new 24, 3) := by decide +kernel
theorem dX11_init_33 : decode cX11_init 33 = .ok (.dup, 1) := by decide +kernel
theorem dX11_init_34 : decode cX11_init 34 = .ok (.invokespecial 26, 3) := by decide +kernel
theorem dX11_init_37 : decode cX11_init 37 = .ok (.putfield 27, 3) := by decide +kernel
theorem dX11_init_40 : decode cX11_init 40 = .ok (.aload_n 0, 1) := by decide +kernel
theorem dX11_init_41 : decode cX11_init 41 = .ok (.new 31, 3) := by decide +kernel
theorem dX11_init_44 : decode cX11_init 44 = .ok (.dup, 1) := by decide +kernel
theorem dX11_init_45 : decode cX11_init 45 = .ok (.invokespecial 33, 3) := by decide +kernel
theorem dX11_init_48 : decode cX11_init 48 = .ok (.putfield 34, 3) := by decide +kernel
theorem dX11_init_51 : decode cX11_init 51 = .ok (.aload_n 0, 1) := by decide +kernel
theorem dX11_init_52 : decode cX11_init 52 = .ok (.new 38, 3) := by decide +kernel
theorem dX11_init_55 : decode cX11_init 55 = .ok (.dup, 1) := by decide +kernel
theorem dX11_init_56 : decode cX11_init 56 = .ok (.invokespecial 40, 3) := by decide +kernel
theorem dX11_init_59 : decode cX11_init 59 = .ok (.putfield 41, 3) := by decide +kernel
theorem dX11_init_62 : decode cX11_init 62 = .ok (.aload_n 0, 1) := by decide +kernel
theorem dX11_init_63 : decode cX11_init 63 = .ok (.new 38, 3) := by decide +kernel
theorem dX11_init_66 : decode cX11_init 66 = .ok (.dup, 1) := by decide +kernel
theorem dX11_init_67 : decode cX11_init 67 = .ok (.invokespecial 40, 3) := by decide +kernel
theorem dX11_init_70 : decode cX11_init 70 = .ok (.putfield 45, 3) := by decide +kernel
theorem dX11_init_73 : decode cX11_init 73 = .ok (.aload_n 0, 1) := by decide +kernel
theorem dX11_init_74 : decode cX11_init 74 = .ok (.new 38, 3) := by decide +kernel
theorem dX11_init_77 : decode cX11_init 77 = .ok (.dup, 1) := by decide +kernel
theorem dX11_init_78 : decode cX11_init 78 = .ok (.invokespecial 40, 3) := by decide +kernel
theorem dX11_init_81 : decode cX11_init 81 = .ok (.putfield 48, 3) := by decide +kernel
theorem dX11_init_84 : decode cX11_init 84 = .ok (.aload_n 0, 1) := by decide +kernel
theorem dX11_init_85 : decode cX11_init 85 = .ok (.iconst 0, 1) := by decide +kernel
theorem dX11_init_86 : decode cX11_init 86 = .ok (.putfield 51, 3) := by decide +kernel
theorem dX11_init_89 : decode cX11_init 89 = .ok (.aload_n 0, 1) := by decide +kernel
theorem dX11_init_90 : decode cX11_init 90 = .ok (.new 55, 3) := by decide +kernel
theorem dX11_init_93 : decode cX11_init 93 = .ok (.dup, 1) := by decide +kernel
theorem dX11_init_94 : decode cX11_init 94 = .ok (.invokespecial 57, 3) := by decide +kernel
theorem dX11_init_97 : decode cX11_init 97 = .ok (.putfield 58, 3) := by decide +kernel
theorem dX11_init_100 : decode cX11_init 100 = .ok (.aload_n 0, 1) := by decide +kernel
theorem dX11_init_101 : decode cX11_init 101 = .ok (.new 62, 3) := by decide +kernel
theorem dX11_init_104 : decode cX11_init 104 = .ok (.dup, 1) := by decide +kernel
theorem dX11_init_105 : decode cX11_init 105 = .ok (.invokespecial 64, 3) := by decide +kernel
theorem dX11_init_108 : decode cX11_init 108 = .ok (.putfield 65, 3) := by decide +kernel
theorem dX11_init_111 : decode cX11_init 111 = .ok (.aload_n 0, 1) := by decide +kernel
theorem dX11_init_112 : decode cX11_init 112 = .ok (.new 69, 3) := by decide +kernel
theorem dX11_init_115 : decode cX11_init 115 = .ok (.dup, 1) := by decide +kernel
theorem dX11_init_116 : decode cX11_init 116 = .ok (.invokespecial 71, 3) := by decide +kernel
theorem dX11_init_119 : decode cX11_init 119 = .ok (.putfield 72, 3) := by decide +kernel
theorem dX11_init_122 : decode cX11_init 122 = .ok (.aload_n 0, 1) := by decide +kernel
theorem dX11_init_123 : decode cX11_init 123 = .ok (.new 76, 3) := by decide +kernel
theorem dX11_init_126 : decode cX11_init 126 = .ok (.dup, 1) := by decide +kernel
theorem dX11_init_127 : decode cX11_init 127 = .ok (.invokespecial 78, 3) := by decide +kernel
theorem dX11_init_130 : decode cX11_init 130 = .ok (.putfield 79, 3) := by decide +kernel
theorem dX11_init_133 : decode cX11_init 133 = .ok (.aload_n 0, 1) := by decide +kernel
theorem dX11_init_134 : decode cX11_init 134 = .ok (.new 83, 3) := by decide +kernel
theorem dX11_init_137 : decode cX11_init 137 = .ok (.dup, 1) := by decide +kernel
theorem dX11_init_138 : decode cX11_init 138 = .ok (.invokespecial 85, 3) := by decide +kernel
theorem dX11_init_141 : decode cX11_init 141 = .ok (.putfield 86, 3) := by decide +kernel
theorem dX11_init_144 : decode cX11_init 144 = .ok (.return_, 1) := by decide +kernel
set_option maxRecDepth 100000 in
set_option maxHeartbeats 4000000 in
theorem c_X11_init {l : Launch} {D : q_D} (τ : q_T) (σ : q_V) (a0 : Nat) (hI : q_I τ σ) (tA0 : τ a0 = some (9, 0)) : q_CZ l D yX11_init cX11_init 1 none 3 65 87 4079 τ σ [.ref a0] q_ev (fun _ τ1 σ1 => (∀ (b : Nat) (x : Nat × Nat), b ≠ a0 → τ b = some x → ∀ i : Nat, fx_N σ1 b i = fx_N σ b i) ∧ q_X1 9 a0 τ σ τ1 σ1 ∧ σ1 a0 8 = .int 0 ∧ σ1 a0 1 = .int 0 ∧ ∃ br bk bt : Nat, (σ1 a0 5 = .ref br ∧ σ1 a0 6 = .ref bk ∧ σ1 a0 7 = .ref bt) ∧ (br ≠ bk ∧ bt ≠ br ∧ bt ≠ bk) ∧ σ1 br 0 = .int 16 ∧ ∃ c0 c1 c2 e0 e1 e2 t0 t1 t2 : Nat, (σ1 br 1 = .ref c0 ∧ σ1 br 2 = .ref c1 ∧ σ1 br 3 = .ref c2) ∧ (σ1 bk 1 = .ref e0 ∧ σ1 bk 2 = .ref e1 ∧ σ1 bk 3 = .ref e2) ∧ (σ1 bt 1 = .ref t0 ∧ σ1 bt 2 = .ref t1 ∧ σ1 bt 3 = .ref t2) ∧ zz_a6 c0 c1 c2 e0 e1 e2 ∧ zz_a6 c0 c1 c2 t0 t1 t2 ∧ zz_a6 e0 e1 e2 t0 t1 t2 ∧ zz_rz σ1 c0 c1 c2 64 ∧ ∃ lq lr lf : Nat, σ1 a0 3 = .ref lq ∧ σ1 a0 4 = .ref lf ∧ zz_lz σ1 lq lr lf ∧ ∃ N M O : Nat → Nat, (N 0 = br ∧ M 0 = bk ∧ O 0 = bt) ∧ (zw_M τ1 N (fx_N σ1) ∧ zw_M τ1 M (fx_N σ1) ∧ zw_M τ1 O (fx_N σ1)) ∧ zw_ap N M ∧ zw_ap N O ∧ zw_ap M O) := by
  refine q_metZ rfl (Nat.le_of_ble_eq_true rfl) (fun X hG hE hnm hZ => ?_)
  show q_O X 0 0 τ σ 0 [(0, .ref a0)] []
  refine q_aload_n (pc := 0) hG dX11_init_0 0 rfl ?_
  refine q_oin (pc := 1) hG w21 w22 w23 dX11_init_1 ⟨by decide, by decide⟩ (by decide) ?_
  refine q_aload_n (pc := 4) hG dX11_init_4 0 rfl ?_
  refine q_sipush (pc := 5) hG dX11_init_5 ks_260 ?_
  refine q_newA (pc := 8) (k := 110) (N := 260) (aty := .int) hG w36 dX11_init_8 ⟨by decide, by decide, rfl⟩ tl_260 (by decide) ⟨by decide, by decide⟩ (fun h8 n8 => ?_)
  obtain ⟨τ8, et8⟩ : ∃ t : q_T, t = q_tu τ h8 (110, 260) := ⟨_, rfl⟩
  obtain ⟨σ8, es8⟩ : ∃ t : q_V, t = q_vu σ h8 (fun _ => defaultValue (newarray.typeOf .int)) := ⟨_, rfl⟩
  rw [← et8, ← es8]
  have x8 : q_ex τ σ τ8 σ8 := by rw [et8, es8]; exact q_ex.mk n8 (Or.inl (by decide))
  have T8 : τ8 h8 = some (110, 260) := by rw [et8]; exact q_tu_new
  have z8 : σ8 h8 = (fun _ => defaultValue (newarray.typeOf .int)) := by rw [es8]; exact q_vu_new
  have I8 : q_I τ8 σ8 := by rw [et8, es8]; exact q_I.mk hI n8 (fun j _ => (show q_v _ _ (.int 0) from q_vi (ai_110.2.2 j) rl_0 (by decide)))
  have A8 := x8.1 a0 _ tA0
  have F8 : σ8 a0 = σ a0 := A8.2.trans rfl
  show q_O X 1 260 τ8 σ8 10 [(0, .ref a0)] [.ref h8, .ref a0]
  refine q_putF (pc := 10) hG hnm fl_X11_9 (fun r hr => by cases hr; rfl) dX11_init_10 A8.1 rfl rfl ?_
  obtain ⟨σ10, es10⟩ : ∃ t : q_V, t = q_up σ8 a0 0 (.ref h8) := ⟨_, rfl⟩
  rw [← es10]
  have I10 : q_I τ8 σ10 := by rw [es10]; exact I8.put A8.1 (fun hj => absurd (show 0 < 0 from hj) (Nat.not_lt_zero _))
  have F10 : σ10 a0 = updV (σ a0) 0 (.ref h8) := by rw [es10, q_upF, F8]
  have x10 : ∀ b, b ≠ a0 → σ10 b = σ8 b := by rw [es10]; exact fun b hb => q_up_ne hb
  show q_O X 1 260 τ8 σ10 13 [(0, .ref a0)] []
  refine q_aload_n (pc := 13) hG dX11_init_13 0 rfl ?_
  refine q_iconst (pc := 14) hG dX11_init_14 ki_0 ?_
  refine q_putV (pc := 15) hG fl_X11_13 dX11_init_15 A8.1 rfl rfl ?_
  obtain ⟨σ15, es15⟩ : ∃ t : q_V, t = q_up σ10 a0 1 (.int 0) := ⟨_, rfl⟩
  rw [← es15]
  have I15 : q_I τ8 σ15 := by rw [es15]; exact I10.put A8.1 (fun hj => absurd (show 1 < 0 from hj) (Nat.not_lt_zero _))
  have F15 : σ15 a0 = updV (updV (σ a0) 0 (.ref h8)) 1 (.int 0) := by rw [es15, q_upF, F10]
  have x15 : ∀ b, b ≠ a0 → σ15 b = σ10 b := by rw [es15]; exact fun b hb => q_up_ne hb
  show q_O X 1 260 τ8 σ15 18 [(0, .ref a0)] []
  refine q_aload_n (pc := 18) hG dX11_init_18 0 rfl ?_
  refine q_newO (pc := 19) hG kl_7 w24 w25 w2 dX11_init_19 ⟨by decide, by decide⟩ (fun h19 n19 => ?_)
  obtain ⟨τ19, et19⟩ : ∃ t : q_T, t = q_tu τ8 h19 (7, 0) := ⟨_, rfl⟩
  obtain ⟨σ19, es19⟩ : ∃ t : q_V, t = q_vu σ15 h19 (fun j => defaultValue (tyX8 j)) := ⟨_, rfl⟩
  rw [← et19, ← es19]
  have x19 : q_ex τ8 σ15 τ19 σ19 := by rw [et19, es19]; exact q_ex.mk n19 (Or.inl (by decide))
  have T19 : τ19 h19 = some (7, 0) := by rw [et19]; exact q_tu_new
  have z19 : σ19 h19 = (fun j => defaultValue (tyX8 j)) := by rw [es19]; exact q_vu_new
  have I19 : q_I τ19 σ19 := by rw [et19, es19]; exact q_I.mk I15 n19 (fun j hj => absurd (show j < 0 from hj) (Nat.not_lt_zero j))
  have A19 := x19.1 a0 _ A8.1
  have F19 : σ19 a0 = updV (updV (σ a0) 0 (.ref h8)) 1 (.int 0) := A19.2.trans F15
  show q_O X 2 266 τ19 σ19 22 [(0, .ref a0)] [.ref h19, .ref a0]
  refine q_dup (pc := 22) hG dX11_init_22 rfl ?_
  refine q_callINZ (pc := 23) (rest := [.ref h19, .ref a0]) [] hG hZ (c_X8_init τ19 σ19 h19 I19 T19) my_X8_init ⟨rfl, w26⟩ nw_0 dX11_init_23 rfl rfl (Nat.le_of_ble_eq_true rfl) ⟨by decide, by decide, by decide, by decide⟩ (fun _ τ23 σ23 P23 => ?_)
  obtain ⟨E23, P23⟩ := P23
  have A23 := P23.2.2.1 a0 _ (q_neT A19.1 T19 (by decide)) A19.1
  have F23 : σ23 a0 = updV (updV (σ a0) 0 (.ref h8)) 1 (.int 0) := (A23.2.1 (Or.inl rfl)).trans F19
  have U23_h8b := (x19.1 h8 _ T8).1
  have U23_h8 := (P23.2.2.1 h8 _ (q_neT U23_h8b T19 (by decide)) U23_h8b).1
  show q_O X 3 330 τ23 σ23 26 [(0, .ref a0)] [.ref h19, .ref a0]
  refine q_putF (pc := 26) hG hnm fl_X11_20 (fun r hr => by cases hr; rfl) dX11_init_26 A23.1 rfl rfl ?_
  obtain ⟨σ26, es26⟩ : ∃ t : q_V, t = q_up σ23 a0 2 (.ref h19) := ⟨_, rfl⟩
  rw [← es26]
  have I26 : q_I τ23 σ26 := by rw [es26]; exact P23.1.put A23.1 (fun hj => absurd (show 2 < 0 from hj) (Nat.not_lt_zero _))
  have F26 : σ26 a0 = updV (updV (updV (σ a0) 0 (.ref h8)) 1 (.int 0)) 2 (.ref h19) := by rw [es26, q_upF, F23]
  have x26 : ∀ b, b ≠ a0 → σ26 b = σ23 b := by rw [es26]; exact fun b hb => q_up_ne hb
  show q_O X 3 330 τ23 σ26 29 [(0, .ref a0)] []
  refine q_aload_n (pc := 29) hG dX11_init_29 0 rfl ?_
  refine q_newO (pc := 30) hG kl_4 w37 w38 w3 dX11_init_30 ⟨by decide, by decide⟩ (fun h30 n30 => ?_)
  obtain ⟨τ30, et30⟩ : ∃ t : q_T, t = q_tu τ23 h30 (4, 0) := ⟨_, rfl⟩
  obtain ⟨σ30, es30⟩ : ∃ t : q_V, t = q_vu σ26 h30 (fun j => defaultValue (tyX4 j)) := ⟨_, rfl⟩
  rw [← et30, ← es30]
  have x30 : q_ex τ23 σ26 τ30 σ30 := by rw [et30, es30]; exact q_ex.mk n30 (Or.inl (by decide))
  have T30 : τ30 h30 = some (4, 0) := by rw [et30]; exact q_tu_new
  have z30 : σ30 h30 = (fun j => defaultValue (tyX4 j)) := by rw [es30]; exact q_vu_new
  have I30 : q_I τ30 σ30 := by rw [et30, es30]; exact q_I.mk I26 n30 (fun j hj => absurd (show j < 0 from hj) (Nat.not_lt_zero j))
  have A30 := x30.1 a0 _ A23.1
  have F30 : σ30 a0 = updV (updV (updV (σ a0) 0 (.ref h8)) 1 (.int 0)) 2 (.ref h19) := A30.2.trans F26
  show q_O X 4 335 τ30 σ30 33 [(0, .ref a0)] [.ref h30, .ref a0]
  refine q_dup (pc := 33) hG dX11_init_33 rfl ?_
  refine q_callINZ (pc := 34) (rest := [.ref h30, .ref a0]) [] hG hZ (c_X4_init τ30 σ30 h30 I30 T30) my_X4_init ⟨rfl, w39⟩ nw_2 dX11_init_34 rfl rfl (Nat.le_of_ble_eq_true rfl) ⟨by decide, by decide, by decide, by decide⟩ (fun _ τ34 σ34 P34 => ?_)
  obtain ⟨E34, P34⟩ := P34
  have A34 := P34.2.2.1 a0 _ (q_neT A30.1 T30 (by decide)) A30.1
  have F34 : σ34 a0 = updV (updV (updV (σ a0) 0 (.ref h8)) 1 (.int 0)) 2 (.ref h19) := (A34.2.1 (Or.inl rfl)).trans F30
  have U34_h8b := (x30.1 h8 _ U23_h8).1
  have U34_h8 := (P34.2.2.1 h8 _ (q_neT U34_h8b T30 (by decide)) U34_h8b).1
  have U34_h19b := (x30.1 h19 _ P23.2.1).1
  have U34_h19 := (P34.2.2.1 h19 _ (q_neT U34_h19b T30 (by decide)) U34_h19b).1
  show q_O X 11 911 τ34 σ34 37 [(0, .ref a0)] [.ref h30, .ref a0]
  refine q_putF (pc := 37) hG hnm fl_X11_27 (fun r hr => by cases hr; rfl) dX11_init_37 A34.1 rfl rfl ?_
  obtain ⟨σ37, es37⟩ : ∃ t : q_V, t = q_up σ34 a0 3 (.ref h30) := ⟨_, rfl⟩
  rw [← es37]
  have I37 : q_I τ34 σ37 := by rw [es37]; exact P34.1.put A34.1 (fun hj => absurd (show 3 < 0 from hj) (Nat.not_lt_zero _))
  have F37 : σ37 a0 = updV (updV (updV (updV (σ a0) 0 (.ref h8)) 1 (.int 0)) 2 (.ref h19)) 3 (.ref h30) := by rw [es37, q_upF, F34]
  have x37 : ∀ b, b ≠ a0 → σ37 b = σ34 b := by rw [es37]; exact fun b hb => q_up_ne hb
  show q_O X 11 911 τ34 σ37 40 [(0, .ref a0)] []
  refine q_aload_n (pc := 40) hG dX11_init_40 0 rfl ?_
  refine q_newO (pc := 41) hG kl_3 w73 w43 w4 dX11_init_41 ⟨by decide, by decide⟩ (fun h41 n41 => ?_)
  obtain ⟨τ41, et41⟩ : ∃ t : q_T, t = q_tu τ34 h41 (3, 0) := ⟨_, rfl⟩
  obtain ⟨σ41, es41⟩ : ∃ t : q_V, t = q_vu σ37 h41 (fun j => defaultValue (tyX3 j)) := ⟨_, rfl⟩
  rw [← et41, ← es41]
  have x41 : q_ex τ34 σ37 τ41 σ41 := by rw [et41, es41]; exact q_ex.mk n41 (Or.inl (by decide))
  have T41 : τ41 h41 = some (3, 0) := by rw [et41]; exact q_tu_new
  have z41 : σ41 h41 = (fun j => defaultValue (tyX3 j)) := by rw [es41]; exact q_vu_new
  have I41 : q_I τ41 σ41 := by rw [et41, es41]; exact q_I.mk I37 n41 (fun j hj => absurd (show j < 0 from hj) (Nat.not_lt_zero j))
  have A41 := x41.1 a0 _ A34.1
  have F41 : σ41 a0 = updV (updV (updV (updV (σ a0) 0 (.ref h8)) 1 (.int 0)) 2 (.ref h19)) 3 (.ref h30) := A41.2.trans F37
  show q_O X 12 927 τ41 σ41 44 [(0, .ref a0)] [.ref h41, .ref a0]
  refine q_dup (pc := 44) hG dX11_init_44 rfl ?_
  refine q_callIN (pc := 45) (rest := [.ref h41, .ref a0]) [] hG (c_X3_init τ41 σ41 h41 I41 T41) my_X3_init ⟨rfl, w44⟩ nw_5 dX11_init_45 rfl rfl (Nat.le_of_ble_eq_true rfl) ⟨by decide, by decide, by decide, by decide⟩ (fun _ τ45 σ45 P45 => ?_)
  obtain ⟨E45, P45⟩ := P45
  obtain ⟨P45, Q45⟩ := P45
  have A45 := P45.2.2.1 a0 _ (q_neT A41.1 T41 (by decide)) A41.1
  have F45 : σ45 a0 = updV (updV (updV (updV (σ a0) 0 (.ref h8)) 1 (.int 0)) 2 (.ref h19)) 3 (.ref h30) := (A45.2.1 (Or.inl rfl)).trans F41
  have U45_h8b := (x41.1 h8 _ U34_h8).1
  have U45_h8 := (P45.2.2.1 h8 _ (q_neT U45_h8b T41 (by decide)) U45_h8b).1
  have U45_h19b := (x41.1 h19 _ U34_h19).1
  have U45_h19 := (P45.2.2.1 h19 _ (q_neT U45_h19b T41 (by decide)) U45_h19b).1
  have U45_h30b := (x41.1 h30 _ P34.2.1).1
  have U45_h30 := (P45.2.2.1 h30 _ (q_neT U45_h30b T41 (by decide)) U45_h30b).1
  show q_O X 18 1487 τ45 σ45 48 [(0, .ref a0)] [.ref h41, .ref a0]
  obtain ⟨lr, ld45⟩ := zz_ld.mk I41 (x41.1 h30 _ P34.2.1).1 T41 P45.2.1 P45.2.2.1 Q45
  refine q_putV (pc := 48) hG fl_X11_34 dX11_init_48 A45.1 rfl rfl ?_
  obtain ⟨σ48, es48⟩ : ∃ t : q_V, t = q_up σ45 a0 4 (.ref h41) := ⟨_, rfl⟩
  rw [← es48]
  have I48 : q_I τ45 σ48 := by rw [es48]; exact P45.1.put A45.1 (fun hj => absurd (show 4 < 0 from hj) (Nat.not_lt_zero _))
  have F48 : σ48 a0 = updV (updV (updV (updV (updV (σ a0) 0 (.ref h8)) 1 (.int 0)) 2 (.ref h19)) 3 (.ref h30)) 4 (.ref h41) := by rw [es48, q_upF, F45]
  have x48 : ∀ b, b ≠ a0 → σ48 b = σ45 b := by rw [es48]; exact fun b hb => q_up_ne hb
  show q_O X 18 1487 τ45 σ48 51 [(0, .ref a0)] []
  have ld48 : zz_ld τ45 σ48 h30 lr h41 := ld45.put x48 A45.1
  refine q_aload_n (pc := 51) hG dX11_init_51 0 rfl ?_
  refine q_newO (pc := 52) hG kl_6 w74 w75 w5 dX11_init_52 ⟨by decide, by decide⟩ (fun h52 n52 => ?_)
  have NA : h52 ≠ a0 := fun e => by have q := n52; rw [e, A45.1] at q; cases q
  obtain ⟨τ52, et52⟩ : ∃ t : q_T, t = q_tu τ45 h52 (6, 0) := ⟨_, rfl⟩
  obtain ⟨σ52, es52⟩ : ∃ t : q_V, t = q_vu σ48 h52 (fun j => defaultValue (tyX7 j)) := ⟨_, rfl⟩
  rw [← et52, ← es52]
  have x52 : q_ex τ45 σ48 τ52 σ52 := by rw [et52, es52]; exact q_ex.mk n52 (Or.inl (by decide))
  have T52 : τ52 h52 = some (6, 0) := by rw [et52]; exact q_tu_new
  have z52 : σ52 h52 = (fun j => defaultValue (tyX7 j)) := by rw [es52]; exact q_vu_new
  have I52 : q_I τ52 σ52 := by rw [et52, es52]; exact q_I.mk I48 n52 (fun j hj => absurd (show j < 0 from hj) (Nat.not_lt_zero j))
  have A52 := x52.1 a0 _ A45.1
  have F52 : σ52 a0 = updV (updV (updV (updV (updV (σ a0) 0 (.ref h8)) 1 (.int 0)) 2 (.ref h19)) 3 (.ref h30)) 4 (.ref h41) := A52.2.trans F48
  show q_O X 19 1505 τ52 σ52 55 [(0, .ref a0)] [.ref h52, .ref a0]
  have ld52 : zz_ld τ52 σ52 h30 lr h41 := ld48.new x52.1
  refine q_dup (pc := 55) hG dX11_init_55 rfl ?_
  refine q_callI (pc := 56) (rest := [.ref h52, .ref a0]) [] hG (c_X7_init τ52 σ52 h52 I52 T52) my_X7_init ⟨rfl, w77⟩ w76 dX11_init_56 rfl rfl (Nat.le_of_ble_eq_true rfl) ⟨by decide, by decide, by decide, by decide⟩ (fun _ τ56 σ56 P56 => ?_)
  obtain ⟨E56, P56⟩ := P56
  obtain ⟨P56, Q56⟩ := P56
  have A56 := P56.2.2.1 a0 _ (q_neT A52.1 T52 (by decide)) A52.1
  have F56 : σ56 a0 = updV (updV (updV (updV (updV (σ a0) 0 (.ref h8)) 1 (.int 0)) 2 (.ref h19)) 3 (.ref h30)) 4 (.ref h41) := (A56.2.1 (Or.inl rfl)).trans F52
  have U56_h8b := (x52.1 h8 _ U45_h8).1
  have U56_h8 := (P56.2.2.1 h8 _ (q_neT U56_h8b T52 (by decide)) U56_h8b).1
  have U56_h19b := (x52.1 h19 _ U45_h19).1
  have U56_h19 := (P56.2.2.1 h19 _ (q_neT U56_h19b T52 (by decide)) U56_h19b).1
  have U56_h30b := (x52.1 h30 _ U45_h30).1
  have U56_h30 := (P56.2.2.1 h30 _ (q_neT U56_h30b T52 (by decide)) U56_h30b).1
  have U56_h41b := (x52.1 h41 _ P45.2.1).1
  have U56_h41 := (P56.2.2.1 h41 _ (q_neT U56_h41b T52 (by decide)) U56_h41b).1
  show q_O X 33 2049 τ56 σ56 59 [(0, .ref a0)] [.ref h52, .ref a0]
  obtain ⟨Q56, ⟨N56, nz56, nM56, nn56⟩, Q56_⟩ := Q56
  have Q56 := And.intro Q56 Q56_
  obtain ⟨Q56, y56_0, y56_1, y56_2, e56, d56, m56, z56⟩ := Q56
  have rd56_0 : zz_rd τ56 σ56 h52 y56_0 y56_1 y56_2 := ⟨P56.2.1, ⟨(zz_refT P56.1 P56.2.1 (j := 1) (by decide) e56.1 rfl), (zz_refT P56.1 P56.2.1 (j := 2) (by decide) e56.2.1 rfl), (zz_refT P56.1 P56.2.1 (j := 3) (by decide) e56.2.2 rfl)⟩, e56, d56, Q56, z56⟩
  have ld56 : zz_ld τ56 σ56 h30 lr h41 := ld52.call P56.2.2.1 T52
  refine q_putF (pc := 59) hG hnm fl_X11_41 (fun r hr => by cases hr; rfl) dX11_init_59 A56.1 rfl rfl ?_
  obtain ⟨σ59, es59⟩ : ∃ t : q_V, t = q_up σ56 a0 5 (.ref h52) := ⟨_, rfl⟩
  rw [← es59]
  have I59 : q_I τ56 σ59 := by rw [es59]; exact P56.1.put A56.1 (fun hj => absurd (show 5 < 0 from hj) (Nat.not_lt_zero _))
  have F59 : σ59 a0 = updV (updV (updV (updV (updV (updV (σ a0) 0 (.ref h8)) 1 (.int 0)) 2 (.ref h19)) 3 (.ref h30)) 4 (.ref h41)) 5 (.ref h52) := by rw [es59, q_upF, F56]
  have x59 : ∀ b, b ≠ a0 → σ59 b = σ56 b := by rw [es59]; exact fun b hb => q_up_ne hb
  show q_O X 33 2049 τ56 σ59 62 [(0, .ref a0)] []
  have ld59 : zz_ld τ56 σ59 h30 lr h41 := ld56.put x59 A56.1
  have rd59_0 : zz_rd τ56 σ59 h52 y56_0 y56_1 y56_2 := rd56_0.put x59 A56.1
  have nd59_0 : zw_M τ56 N56 (fx_N σ59) := nM56.put x59 A56.1
  have W59 : σ59 h52 0 = .int 16 := (congrFun (x59 h52 NA) 0).trans Q56
  refine q_aload_n (pc := 62) hG dX11_init_62 0 rfl ?_
  refine q_newO (pc := 63) hG kl_6 w74 w75 w5 dX11_init_63 ⟨by decide, by decide⟩ (fun h63 n63 => ?_)
  have NR63_h52 : h63 ≠ h52 := fun e => by have q := n63; rw [e, P56.2.1] at q; cases q
  obtain ⟨τ63, et63⟩ : ∃ t : q_T, t = q_tu τ56 h63 (6, 0) := ⟨_, rfl⟩
  obtain ⟨σ63, es63⟩ : ∃ t : q_V, t = q_vu σ59 h63 (fun j => defaultValue (tyX7 j)) := ⟨_, rfl⟩
  rw [← et63, ← es63]
  have x63 : q_ex τ56 σ59 τ63 σ63 := by rw [et63, es63]; exact q_ex.mk n63 (Or.inl (by decide))
  have T63 : τ63 h63 = some (6, 0) := by rw [et63]; exact q_tu_new
  have z63 : σ63 h63 = (fun j => defaultValue (tyX7 j)) := by rw [es63]; exact q_vu_new
  have I63 : q_I τ63 σ63 := by rw [et63, es63]; exact q_I.mk I59 n63 (fun j hj => absurd (show j < 0 from hj) (Nat.not_lt_zero j))
  have A63 := x63.1 a0 _ A56.1
  have F63 : σ63 a0 = updV (updV (updV (updV (updV (updV (σ a0) 0 (.ref h8)) 1 (.int 0)) 2 (.ref h19)) 3 (.ref h30)) 4 (.ref h41)) 5 (.ref h52) := A63.2.trans F59
  show q_O X 34 2067 τ63 σ63 66 [(0, .ref a0)] [.ref h63, .ref a0]
  have ld63 : zz_ld τ63 σ63 h30 lr h41 := ld59.new x63.1
  have rd63_0 : zz_rd τ63 σ63 h52 y56_0 y56_1 y56_2 := rd59_0.new x63.1
  have nd63_0 : zw_M τ63 N56 (fx_N σ63) := nd59_0.new x63.1
  have W63 : σ63 h52 0 = .int 16 := (congrFun (x63.1 h52 _ P56.2.1).2 0).trans W59
  refine q_dup (pc := 66) hG dX11_init_66 rfl ?_
  refine q_callI (pc := 67) (rest := [.ref h63, .ref a0]) [] hG (c_X7_init τ63 σ63 h63 I63 T63) my_X7_init ⟨rfl, w77⟩ w76 dX11_init_67 rfl rfl (Nat.le_of_ble_eq_true rfl) ⟨by decide, by decide, by decide, by decide⟩ (fun _ τ67 σ67 P67 => ?_)
  obtain ⟨E67, P67⟩ := P67
  obtain ⟨P67, Q67⟩ := P67
  have A67 := P67.2.2.1 a0 _ (q_neT A63.1 T63 (by decide)) A63.1
  have F67 : σ67 a0 = updV (updV (updV (updV (updV (updV (σ a0) 0 (.ref h8)) 1 (.int 0)) 2 (.ref h19)) 3 (.ref h30)) 4 (.ref h41)) 5 (.ref h52) := (A67.2.1 (Or.inl rfl)).trans F63
  have U67_h8b := (x63.1 h8 _ U56_h8).1
  have U67_h8 := (P67.2.2.1 h8 _ (q_neT U67_h8b T63 (by decide)) U67_h8b).1
  have U67_h19b := (x63.1 h19 _ U56_h19).1
  have U67_h19 := (P67.2.2.1 h19 _ (q_neT U67_h19b T63 (by decide)) U67_h19b).1
  have U67_h30b := (x63.1 h30 _ U56_h30).1
  have U67_h30 := (P67.2.2.1 h30 _ (q_neT U67_h30b T63 (by decide)) U67_h30b).1
  have U67_h41b := (x63.1 h41 _ U56_h41).1
  have U67_h41 := (P67.2.2.1 h41 _ (q_neT U67_h41b T63 (by decide)) U67_h41b).1
  have U67_h52b := (x63.1 h52 _ P56.2.1).1
  have U67_h52 := (P67.2.2.1 h52 _ (q_neT U67_h52b T63 (by decide)) U67_h52b).1
  show q_O X 48 2611 τ67 σ67 70 [(0, .ref a0)] [.ref h63, .ref a0]
  obtain ⟨Q67, ⟨N67, nz67, nM67, nn67⟩, Q67_⟩ := Q67
  have Q67 := And.intro Q67 Q67_
  have na67_0 : zw_ap N56 N67 := zw_M.ap nd63_0.1 nz67 T63 nn67
  obtain ⟨Q67, y67_0, y67_1, y67_2, e67, d67, m67, z67⟩ := Q67
  have ap67_0 := rd63_0.ne m67.1 m67.2.1 m67.2.2 d67
  have rd67_1 : zz_rd τ67 σ67 h63 y67_0 y67_1 y67_2 := ⟨P67.2.1, ⟨(zz_refT P67.1 P67.2.1 (j := 1) (by decide) e67.1 rfl), (zz_refT P67.1 P67.2.1 (j := 2) (by decide) e67.2.1 rfl), (zz_refT P67.1 P67.2.1 (j := 3) (by decide) e67.2.2 rfl)⟩, e67, d67, Q67, z67⟩
  have ld67 : zz_ld τ67 σ67 h30 lr h41 := ld63.call P67.2.2.1 T63
  have rd67_0 : zz_rd τ67 σ67 h52 y56_0 y56_1 y56_2 := rd63_0.call (zz_lxn P67.2.2.1) T63
  have nd67_0 : zw_M τ67 N56 (fx_N σ67) := nd63_0.call P67.2.2.1 E67 T63
  have W67 : σ67 h52 0 = .int 16 := ((P67.2.2.1 h52 _ (q_neT (x63.1 h52 _ P56.2.1).1 T63 (by decide)) (x63.1 h52 _ P56.2.1).1).2.2 rfl 0 (by decide)).trans W63
  refine q_putF (pc := 70) hG hnm fl_X11_45 (fun r hr => by cases hr; rfl) dX11_init_70 A67.1 rfl rfl ?_
  obtain ⟨σ70, es70⟩ : ∃ t : q_V, t = q_up σ67 a0 6 (.ref h63) := ⟨_, rfl⟩
  rw [← es70]
  have I70 : q_I τ67 σ70 := by rw [es70]; exact P67.1.put A67.1 (fun hj => absurd (show 6 < 0 from hj) (Nat.not_lt_zero _))
  have F70 : σ70 a0 = updV (updV (updV (updV (updV (updV (updV (σ a0) 0 (.ref h8)) 1 (.int 0)) 2 (.ref h19)) 3 (.ref h30)) 4 (.ref h41)) 5 (.ref h52)) 6 (.ref h63) := by rw [es70, q_upF, F67]
  have x70 : ∀ b, b ≠ a0 → σ70 b = σ67 b := by rw [es70]; exact fun b hb => q_up_ne hb
  show q_O X 48 2611 τ67 σ70 73 [(0, .ref a0)] []
  have ld70 : zz_ld τ67 σ70 h30 lr h41 := ld67.put x70 A67.1
  have rd70_0 : zz_rd τ67 σ70 h52 y56_0 y56_1 y56_2 := rd67_0.put x70 A67.1
  have rd70_1 : zz_rd τ67 σ70 h63 y67_0 y67_1 y67_2 := rd67_1.put x70 A67.1
  have nd70_0 : zw_M τ67 N56 (fx_N σ70) := nd67_0.put x70 A67.1
  have nd70_1 : zw_M τ67 N67 (fx_N σ70) := nM67.put x70 A67.1
  have W70 : σ70 h52 0 = .int 16 := (congrFun (x70 h52 NA) 0).trans W67
  refine q_aload_n (pc := 73) hG dX11_init_73 0 rfl ?_
  refine q_newO (pc := 74) hG kl_6 w74 w75 w5 dX11_init_74 ⟨by decide, by decide⟩ (fun h74 n74 => ?_)
  have NR74_h52 : h74 ≠ h52 := fun e => by have q := n74; rw [e, U67_h52] at q; cases q
  have NR74_h63 : h74 ≠ h63 := fun e => by have q := n74; rw [e, P67.2.1] at q; cases q
  obtain ⟨τ74, et74⟩ : ∃ t : q_T, t = q_tu τ67 h74 (6, 0) := ⟨_, rfl⟩
  obtain ⟨σ74, es74⟩ : ∃ t : q_V, t = q_vu σ70 h74 (fun j => defaultValue (tyX7 j)) := ⟨_, rfl⟩
  rw [← et74, ← es74]
  have x74 : q_ex τ67 σ70 τ74 σ74 := by rw [et74, es74]; exact q_ex.mk n74 (Or.inl (by decide))
  have T74 : τ74 h74 = some (6, 0) := by rw [et74]; exact q_tu_new
  have z74 : σ74 h74 = (fun j => defaultValue (tyX7 j)) := by rw [es74]; exact q_vu_new
  have I74 : q_I τ74 σ74 := by rw [et74, es74]; exact q_I.mk I70 n74 (fun j hj => absurd (show j < 0 from hj) (Nat.not_lt_zero j))
  have A74 := x74.1 a0 _ A67.1
  have F74 : σ74 a0 = updV (updV (updV (updV (updV (updV (updV (σ a0) 0 (.ref h8)) 1 (.int 0)) 2 (.ref h19)) 3 (.ref h30)) 4 (.ref h41)) 5 (.ref h52)) 6 (.ref h63) := A74.2.trans F70
  show q_O X 49 2629 τ74 σ74 77 [(0, .ref a0)] [.ref h74, .ref a0]
  have ld74 : zz_ld τ74 σ74 h30 lr h41 := ld70.new x74.1
  have rd74_0 : zz_rd τ74 σ74 h52 y56_0 y56_1 y56_2 := rd70_0.new x74.1
  have rd74_1 : zz_rd τ74 σ74 h63 y67_0 y67_1 y67_2 := rd70_1.new x74.1
  have nd74_0 : zw_M τ74 N56 (fx_N σ74) := nd70_0.new x74.1
  have nd74_1 : zw_M τ74 N67 (fx_N σ74) := nd70_1.new x74.1
  have W74 : σ74 h52 0 = .int 16 := (congrFun (x74.1 h52 _ U67_h52).2 0).trans W70
  refine q_dup (pc := 77) hG dX11_init_77 rfl ?_
  refine q_callI (pc := 78) (rest := [.ref h74, .ref a0]) [] hG (c_X7_init τ74 σ74 h74 I74 T74) my_X7_init ⟨rfl, w77⟩ w76 dX11_init_78 rfl rfl (Nat.le_of_ble_eq_true rfl) ⟨by decide, by decide, by decide, by decide⟩ (fun _ τ78 σ78 P78 => ?_)
  obtain ⟨E78, P78⟩ := P78
  obtain ⟨P78, Q78⟩ := P78
  have A78 := P78.2.2.1 a0 _ (q_neT A74.1 T74 (by decide)) A74.1
  have F78 : σ78 a0 = updV (updV (updV (updV (updV (updV (updV (σ a0) 0 (.ref h8)) 1 (.int 0)) 2 (.ref h19)) 3 (.ref h30)) 4 (.ref h41)) 5 (.ref h52)) 6 (.ref h63) := (A78.2.1 (Or.inl rfl)).trans F74
  have U78_h8b := (x74.1 h8 _ U67_h8).1
  have U78_h8 := (P78.2.2.1 h8 _ (q_neT U78_h8b T74 (by decide)) U78_h8b).1
  have U78_h19b := (x74.1 h19 _ U67_h19).1
  have U78_h19 := (P78.2.2.1 h19 _ (q_neT U78_h19b T74 (by decide)) U78_h19b).1
  have U78_h30b := (x74.1 h30 _ U67_h30).1
  have U78_h30 := (P78.2.2.1 h30 _ (q_neT U78_h30b T74 (by decide)) U78_h30b).1
  have U78_h41b := (x74.1 h41 _ U67_h41).1
  have U78_h41 := (P78.2.2.1 h41 _ (q_neT U78_h41b T74 (by decide)) U78_h41b).1
  have U78_h52b := (x74.1 h52 _ U67_h52).1
  have U78_h52 := (P78.2.2.1 h52 _ (q_neT U78_h52b T74 (by decide)) U78_h52b).1
  have U78_h63b := (x74.1 h63 _ P67.2.1).1
  have U78_h63 := (P78.2.2.1 h63 _ (q_neT U78_h63b T74 (by decide)) U78_h63b).1
  show q_O X 63 3173 τ78 σ78 81 [(0, .ref a0)] [.ref h74, .ref a0]
  obtain ⟨Q78, ⟨N78, nz78, nM78, nn78⟩, Q78_⟩ := Q78
  have Q78 := And.intro Q78 Q78_
  have na78_0 : zw_ap N56 N78 := zw_M.ap nd74_0.1 nz78 T74 nn78
  have na78_1 : zw_ap N67 N78 := zw_M.ap nd74_1.1 nz78 T74 nn78
  obtain ⟨Q78, y78_0, y78_1, y78_2, e78, d78, m78, z78⟩ := Q78
  have ap78_0 := rd74_0.ne m78.1 m78.2.1 m78.2.2 d78
  have ap78_1 := rd74_1.ne m78.1 m78.2.1 m78.2.2 d78
  have rd78_2 : zz_rd τ78 σ78 h74 y78_0 y78_1 y78_2 := ⟨P78.2.1, ⟨(zz_refT P78.1 P78.2.1 (j := 1) (by decide) e78.1 rfl), (zz_refT P78.1 P78.2.1 (j := 2) (by decide) e78.2.1 rfl), (zz_refT P78.1 P78.2.1 (j := 3) (by decide) e78.2.2 rfl)⟩, e78, d78, Q78, z78⟩
  have ld78 : zz_ld τ78 σ78 h30 lr h41 := ld74.call P78.2.2.1 T74
  have rd78_0 : zz_rd τ78 σ78 h52 y56_0 y56_1 y56_2 := rd74_0.call (zz_lxn P78.2.2.1) T74
  have rd78_1 : zz_rd τ78 σ78 h63 y67_0 y67_1 y67_2 := rd74_1.call (zz_lxn P78.2.2.1) T74
  have nd78_0 : zw_M τ78 N56 (fx_N σ78) := nd74_0.call P78.2.2.1 E78 T74
  have nd78_1 : zw_M τ78 N67 (fx_N σ78) := nd74_1.call P78.2.2.1 E78 T74
  have W78 : σ78 h52 0 = .int 16 := ((P78.2.2.1 h52 _ (q_neT (x74.1 h52 _ U67_h52).1 T74 (by decide)) (x74.1 h52 _ U67_h52).1).2.2 rfl 0 (by decide)).trans W74
  refine q_putF (pc := 81) hG hnm fl_X11_48 (fun r hr => by cases hr; rfl) dX11_init_81 A78.1 rfl rfl ?_
  obtain ⟨σ81, es81⟩ : ∃ t : q_V, t = q_up σ78 a0 7 (.ref h74) := ⟨_, rfl⟩
  rw [← es81]
  have I81 : q_I τ78 σ81 := by rw [es81]; exact P78.1.put A78.1 (fun hj => absurd (show 7 < 0 from hj) (Nat.not_lt_zero _))
  have F81 : σ81 a0 = updV (updV (updV (updV (updV (updV (updV (updV (σ a0) 0 (.ref h8)) 1 (.int 0)) 2 (.ref h19)) 3 (.ref h30)) 4 (.ref h41)) 5 (.ref h52)) 6 (.ref h63)) 7 (.ref h74) := by rw [es81, q_upF, F78]
  have x81 : ∀ b, b ≠ a0 → σ81 b = σ78 b := by rw [es81]; exact fun b hb => q_up_ne hb
  show q_O X 63 3173 τ78 σ81 84 [(0, .ref a0)] []
  have ld81 : zz_ld τ78 σ81 h30 lr h41 := ld78.put x81 A78.1
  have rd81_0 : zz_rd τ78 σ81 h52 y56_0 y56_1 y56_2 := rd78_0.put x81 A78.1
  have rd81_1 : zz_rd τ78 σ81 h63 y67_0 y67_1 y67_2 := rd78_1.put x81 A78.1
  have rd81_2 : zz_rd τ78 σ81 h74 y78_0 y78_1 y78_2 := rd78_2.put x81 A78.1
  have nd81_0 : zw_M τ78 N56 (fx_N σ81) := nd78_0.put x81 A78.1
  have nd81_1 : zw_M τ78 N67 (fx_N σ81) := nd78_1.put x81 A78.1
  have nd81_2 : zw_M τ78 N78 (fx_N σ81) := nM78.put x81 A78.1
  have W81 : σ81 h52 0 = .int 16 := (congrFun (x81 h52 NA) 0).trans W78
  refine q_aload_n (pc := 84) hG dX11_init_84 0 rfl ?_
  refine q_iconst (pc := 85) hG dX11_init_85 ki_0 ?_
  refine q_putV (pc := 86) hG fl_X11_51 dX11_init_86 A78.1 rfl rfl ?_
  obtain ⟨σ86, es86⟩ : ∃ t : q_V, t = q_up σ81 a0 8 (.int 0) := ⟨_, rfl⟩
  rw [← es86]
  have I86 : q_I τ78 σ86 := by rw [es86]; exact I81.put A78.1 (fun hj => absurd (show 8 < 0 from hj) (Nat.not_lt_zero _))
  have F86 : σ86 a0 = updV (updV (updV (updV (updV (updV (updV (updV (updV (σ a0) 0 (.ref h8)) 1 (.int 0)) 2 (.ref h19)) 3 (.ref h30)) 4 (.ref h41)) 5 (.ref h52)) 6 (.ref h63)) 7 (.ref h74)) 8 (.int 0) := by rw [es86, q_upF, F81]
  have x86 : ∀ b, b ≠ a0 → σ86 b = σ81 b := by rw [es86]; exact fun b hb => q_up_ne hb
  show q_O X 63 3173 τ78 σ86 89 [(0, .ref a0)] []
  have ld86 : zz_ld τ78 σ86 h30 lr h41 := ld81.put x86 A78.1
  have rd86_0 : zz_rd τ78 σ86 h52 y56_0 y56_1 y56_2 := rd81_0.put x86 A78.1
  have rd86_1 : zz_rd τ78 σ86 h63 y67_0 y67_1 y67_2 := rd81_1.put x86 A78.1
  have rd86_2 : zz_rd τ78 σ86 h74 y78_0 y78_1 y78_2 := rd81_2.put x86 A78.1
  have nd86_0 : zw_M τ78 N56 (fx_N σ86) := nd81_0.put x86 A78.1
  have nd86_1 : zw_M τ78 N67 (fx_N σ86) := nd81_1.put x86 A78.1
  have nd86_2 : zw_M τ78 N78 (fx_N σ86) := nd81_2.put x86 A78.1
  have W86 : σ86 h52 0 = .int 16 := (congrFun (x86 h52 NA) 0).trans W81
  refine q_aload_n (pc := 89) hG dX11_init_89 0 rfl ?_
  refine q_newO (pc := 90) hG kl_5 w156 w157 w6 dX11_init_90 ⟨by decide, by decide⟩ (fun h90 n90 => ?_)
  obtain ⟨τ90, et90⟩ : ∃ t : q_T, t = q_tu τ78 h90 (5, 0) := ⟨_, rfl⟩
  obtain ⟨σ90, es90⟩ : ∃ t : q_V, t = q_vu σ86 h90 (fun j => defaultValue (tyX6 j)) := ⟨_, rfl⟩
  rw [← et90, ← es90]
  have x90 : q_ex τ78 σ86 τ90 σ90 := by rw [et90, es90]; exact q_ex.mk n90 (Or.inl (by decide))
  have T90 : τ90 h90 = some (5, 0) := by rw [et90]; exact q_tu_new
  have z90 : σ90 h90 = (fun j => defaultValue (tyX6 j)) := by rw [es90]; exact q_vu_new
  have I90 : q_I τ90 σ90 := by rw [et90, es90]; exact q_I.mk I86 n90 (fun j hj => absurd (show j < 0 from hj) (Nat.not_lt_zero j))
  have A90 := x90.1 a0 _ A78.1
  have F90 : σ90 a0 = updV (updV (updV (updV (updV (updV (updV (updV (updV (σ a0) 0 (.ref h8)) 1 (.int 0)) 2 (.ref h19)) 3 (.ref h30)) 4 (.ref h41)) 5 (.ref h52)) 6 (.ref h63)) 7 (.ref h74)) 8 (.int 0) := A90.2.trans F86
  show q_O X 64 3180 τ90 σ90 93 [(0, .ref a0)] [.ref h90, .ref a0]
  have ld90 : zz_ld τ90 σ90 h30 lr h41 := ld86.new x90.1
  have rd90_0 : zz_rd τ90 σ90 h52 y56_0 y56_1 y56_2 := rd86_0.new x90.1
  have rd90_1 : zz_rd τ90 σ90 h63 y67_0 y67_1 y67_2 := rd86_1.new x90.1
  have rd90_2 : zz_rd τ90 σ90 h74 y78_0 y78_1 y78_2 := rd86_2.new x90.1
  have nd90_0 : zw_M τ90 N56 (fx_N σ90) := nd86_0.new x90.1
  have nd90_1 : zw_M τ90 N67 (fx_N σ90) := nd86_1.new x90.1
  have nd90_2 : zw_M τ90 N78 (fx_N σ90) := nd86_2.new x90.1
  have W90 : σ90 h52 0 = .int 16 := (congrFun (x90.1 h52 _ U78_h52).2 0).trans W86
  refine q_dup (pc := 93) hG dX11_init_93 rfl ?_
  refine q_callIN (pc := 94) (rest := [.ref h90, .ref a0]) [] hG (c_X6_init τ90 σ90 h90 I90 T90) my_X6_init ⟨rfl, w158⟩ nw_6 dX11_init_94 rfl rfl (Nat.le_of_ble_eq_true rfl) ⟨by decide, by decide, by decide, by decide⟩ (fun _ τ94 σ94 P94 => ?_)
  obtain ⟨E94, P94⟩ := P94
  have A94 := P94.2.2.1 a0 _ (q_neT A90.1 T90 (by decide)) A90.1
  have F94 : σ94 a0 = updV (updV (updV (updV (updV (updV (updV (updV (updV (σ a0) 0 (.ref h8)) 1 (.int 0)) 2 (.ref h19)) 3 (.ref h30)) 4 (.ref h41)) 5 (.ref h52)) 6 (.ref h63)) 7 (.ref h74)) 8 (.int 0) := (A94.2.1 (Or.inl rfl)).trans F90
  have U94_h8b := (x90.1 h8 _ U78_h8).1
  have U94_h8 := (P94.2.2.1 h8 _ (q_neT U94_h8b T90 (by decide)) U94_h8b).1
  have U94_h19b := (x90.1 h19 _ U78_h19).1
  have U94_h19 := (P94.2.2.1 h19 _ (q_neT U94_h19b T90 (by decide)) U94_h19b).1
  have U94_h30b := (x90.1 h30 _ U78_h30).1
  have U94_h30 := (P94.2.2.1 h30 _ (q_neT U94_h30b T90 (by decide)) U94_h30b).1
  have U94_h41b := (x90.1 h41 _ U78_h41).1
  have U94_h41 := (P94.2.2.1 h41 _ (q_neT U94_h41b T90 (by decide)) U94_h41b).1
  have U94_h52b := (x90.1 h52 _ U78_h52).1
  have U94_h52 := (P94.2.2.1 h52 _ (q_neT U94_h52b T90 (by decide)) U94_h52b).1
  have U94_h63b := (x90.1 h63 _ U78_h63).1
  have U94_h63 := (P94.2.2.1 h63 _ (q_neT U94_h63b T90 (by decide)) U94_h63b).1
  have U94_h74b := (x90.1 h74 _ P78.2.1).1
  have U94_h74 := (P94.2.2.1 h74 _ (q_neT U94_h74b T90 (by decide)) U94_h74b).1
  show q_O X 67 3310 τ94 σ94 97 [(0, .ref a0)] [.ref h90, .ref a0]
  have ld94 : zz_ld τ94 σ94 h30 lr h41 := ld90.call P94.2.2.1 T90
  have rd94_0 : zz_rd τ94 σ94 h52 y56_0 y56_1 y56_2 := rd90_0.call (zz_lxn P94.2.2.1) T90
  have rd94_1 : zz_rd τ94 σ94 h63 y67_0 y67_1 y67_2 := rd90_1.call (zz_lxn P94.2.2.1) T90
  have rd94_2 : zz_rd τ94 σ94 h74 y78_0 y78_1 y78_2 := rd90_2.call (zz_lxn P94.2.2.1) T90
  have nd94_0 : zw_M τ94 N56 (fx_N σ94) := nd90_0.call P94.2.2.1 E94 T90
  have nd94_1 : zw_M τ94 N67 (fx_N σ94) := nd90_1.call P94.2.2.1 E94 T90
  have nd94_2 : zw_M τ94 N78 (fx_N σ94) := nd90_2.call P94.2.2.1 E94 T90
  have W94 : σ94 h52 0 = .int 16 := ((P94.2.2.1 h52 _ (q_neT (x90.1 h52 _ U78_h52).1 T90 (by decide)) (x90.1 h52 _ U78_h52).1).2.2 rfl 0 (by decide)).trans W90
  refine q_putF (pc := 97) hG hnm fl_X11_58 (fun r hr => by cases hr; rfl) dX11_init_97 A94.1 rfl rfl ?_
  obtain ⟨σ97, es97⟩ : ∃ t : q_V, t = q_up σ94 a0 9 (.ref h90) := ⟨_, rfl⟩
  rw [← es97]
  have I97 : q_I τ94 σ97 := by rw [es97]; exact P94.1.put A94.1 (fun hj => absurd (show 9 < 0 from hj) (Nat.not_lt_zero _))
  have F97 : σ97 a0 = updV (updV (updV (updV (updV (updV (updV (updV (updV (updV (σ a0) 0 (.ref h8)) 1 (.int 0)) 2 (.ref h19)) 3 (.ref h30)) 4 (.ref h41)) 5 (.ref h52)) 6 (.ref h63)) 7 (.ref h74)) 8 (.int 0)) 9 (.ref h90) := by rw [es97, q_upF, F94]
  have x97 : ∀ b, b ≠ a0 → σ97 b = σ94 b := by rw [es97]; exact fun b hb => q_up_ne hb
  show q_O X 67 3310 τ94 σ97 100 [(0, .ref a0)] []
  have ld97 : zz_ld τ94 σ97 h30 lr h41 := ld94.put x97 A94.1
  have rd97_0 : zz_rd τ94 σ97 h52 y56_0 y56_1 y56_2 := rd94_0.put x97 A94.1
  have rd97_1 : zz_rd τ94 σ97 h63 y67_0 y67_1 y67_2 := rd94_1.put x97 A94.1
  have rd97_2 : zz_rd τ94 σ97 h74 y78_0 y78_1 y78_2 := rd94_2.put x97 A94.1
  have nd97_0 : zw_M τ94 N56 (fx_N σ97) := nd94_0.put x97 A94.1
  have nd97_1 : zw_M τ94 N67 (fx_N σ97) := nd94_1.put x97 A94.1
  have nd97_2 : zw_M τ94 N78 (fx_N σ97) := nd94_2.put x97 A94.1
  have W97 : σ97 h52 0 = .int 16 := (congrFun (x97 h52 NA) 0).trans W94
  refine q_aload_n (pc := 100) hG dX11_init_100 0 rfl ?_
  refine q_newO (pc := 101) hG kl_1 w173 w174 w7 dX11_init_101 ⟨by decide, by decide⟩ (fun h101 n101 => ?_)
  obtain ⟨τ101, et101⟩ : ∃ t : q_T, t = q_tu τ94 h101 (1, 0) := ⟨_, rfl⟩
  obtain ⟨σ101, es101⟩ : ∃ t : q_V, t = q_vu σ97 h101 (fun j => defaultValue (tyX1 j)) := ⟨_, rfl⟩
  rw [← et101, ← es101]
  have x101 : q_ex τ94 σ97 τ101 σ101 := by rw [et101, es101]; exact q_ex.mk n101 (Or.inl (by decide))
  have T101 : τ101 h101 = some (1, 0) := by rw [et101]; exact q_tu_new
  have z101 : σ101 h101 = (fun j => defaultValue (tyX1 j)) := by rw [es101]; exact q_vu_new
  have I101 : q_I τ101 σ101 := by rw [et101, es101]; exact q_I.mk I97 n101 (fun j hj => absurd (show j < 0 from hj) (Nat.not_lt_zero j))
  have A101 := x101.1 a0 _ A94.1
  have F101 : σ101 a0 = updV (updV (updV (updV (updV (updV (updV (updV (updV (updV (σ a0) 0 (.ref h8)) 1 (.int 0)) 2 (.ref h19)) 3 (.ref h30)) 4 (.ref h41)) 5 (.ref h52)) 6 (.ref h63)) 7 (.ref h74)) 8 (.int 0)) 9 (.ref h90) := A101.2.trans F97
  show q_O X 68 3315 τ101 σ101 104 [(0, .ref a0)] [.ref h101, .ref a0]
  have ld101 : zz_ld τ101 σ101 h30 lr h41 := ld97.new x101.1
  have rd101_0 : zz_rd τ101 σ101 h52 y56_0 y56_1 y56_2 := rd97_0.new x101.1
  have rd101_1 : zz_rd τ101 σ101 h63 y67_0 y67_1 y67_2 := rd97_1.new x101.1
  have rd101_2 : zz_rd τ101 σ101 h74 y78_0 y78_1 y78_2 := rd97_2.new x101.1
  have nd101_0 : zw_M τ101 N56 (fx_N σ101) := nd97_0.new x101.1
  have nd101_1 : zw_M τ101 N67 (fx_N σ101) := nd97_1.new x101.1
  have nd101_2 : zw_M τ101 N78 (fx_N σ101) := nd97_2.new x101.1
  have W101 : σ101 h52 0 = .int 16 := (congrFun (x101.1 h52 _ U94_h52).2 0).trans W97
  refine q_dup (pc := 104) hG dX11_init_104 rfl ?_
  refine q_callIN (pc := 105) (rest := [.ref h101, .ref a0]) [] hG (c_X1_init τ101 σ101 h101 I101 T101) my_X1_init ⟨rfl, w175⟩ nw_7 dX11_init_105 rfl rfl (Nat.le_of_ble_eq_true rfl) ⟨by decide, by decide, by decide, by decide⟩ (fun _ τ105 σ105 P105 => ?_)
  obtain ⟨E105, P105⟩ := P105
  have A105 := P105.2.2.1 a0 _ (q_neT A101.1 T101 (by decide)) A101.1
  have F105 : σ105 a0 = updV (updV (updV (updV (updV (updV (updV (updV (updV (updV (σ a0) 0 (.ref h8)) 1 (.int 0)) 2 (.ref h19)) 3 (.ref h30)) 4 (.ref h41)) 5 (.ref h52)) 6 (.ref h63)) 7 (.ref h74)) 8 (.int 0)) 9 (.ref h90) := (A105.2.1 (Or.inl rfl)).trans F101
  have U105_h8b := (x101.1 h8 _ U94_h8).1
  have U105_h8 := (P105.2.2.1 h8 _ (q_neT U105_h8b T101 (by decide)) U105_h8b).1
  have U105_h19b := (x101.1 h19 _ U94_h19).1
  have U105_h19 := (P105.2.2.1 h19 _ (q_neT U105_h19b T101 (by decide)) U105_h19b).1
  have U105_h30b := (x101.1 h30 _ U94_h30).1
  have U105_h30 := (P105.2.2.1 h30 _ (q_neT U105_h30b T101 (by decide)) U105_h30b).1
  have U105_h41b := (x101.1 h41 _ U94_h41).1
  have U105_h41 := (P105.2.2.1 h41 _ (q_neT U105_h41b T101 (by decide)) U105_h41b).1
  have U105_h52b := (x101.1 h52 _ U94_h52).1
  have U105_h52 := (P105.2.2.1 h52 _ (q_neT U105_h52b T101 (by decide)) U105_h52b).1
  have U105_h63b := (x101.1 h63 _ U94_h63).1
  have U105_h63 := (P105.2.2.1 h63 _ (q_neT U105_h63b T101 (by decide)) U105_h63b).1
  have U105_h74b := (x101.1 h74 _ U94_h74).1
  have U105_h74 := (P105.2.2.1 h74 _ (q_neT U105_h74b T101 (by decide)) U105_h74b).1
  have U105_h90b := (x101.1 h90 _ P94.2.1).1
  have U105_h90 := (P105.2.2.1 h90 _ (q_neT U105_h90b T101 (by decide)) U105_h90b).1
  show q_O X 73 3629 τ105 σ105 108 [(0, .ref a0)] [.ref h101, .ref a0]
  have ld105 : zz_ld τ105 σ105 h30 lr h41 := ld101.call P105.2.2.1 T101
  have rd105_0 : zz_rd τ105 σ105 h52 y56_0 y56_1 y56_2 := rd101_0.call (zz_lxn P105.2.2.1) T101
  have rd105_1 : zz_rd τ105 σ105 h63 y67_0 y67_1 y67_2 := rd101_1.call (zz_lxn P105.2.2.1) T101
  have rd105_2 : zz_rd τ105 σ105 h74 y78_0 y78_1 y78_2 := rd101_2.call (zz_lxn P105.2.2.1) T101
  have nd105_0 : zw_M τ105 N56 (fx_N σ105) := nd101_0.call P105.2.2.1 E105 T101
  have nd105_1 : zw_M τ105 N67 (fx_N σ105) := nd101_1.call P105.2.2.1 E105 T101
  have nd105_2 : zw_M τ105 N78 (fx_N σ105) := nd101_2.call P105.2.2.1 E105 T101
  have W105 : σ105 h52 0 = .int 16 := ((P105.2.2.1 h52 _ (q_neT (x101.1 h52 _ U94_h52).1 T101 (by decide)) (x101.1 h52 _ U94_h52).1).2.2 rfl 0 (by decide)).trans W101
  refine q_putF (pc := 108) hG hnm fl_X11_65 (fun r hr => by cases hr; rfl) dX11_init_108 A105.1 rfl rfl ?_
  obtain ⟨σ108, es108⟩ : ∃ t : q_V, t = q_up σ105 a0 10 (.ref h101) := ⟨_, rfl⟩
  rw [← es108]
  have I108 : q_I τ105 σ108 := by rw [es108]; exact P105.1.put A105.1 (fun hj => absurd (show 10 < 0 from hj) (Nat.not_lt_zero _))
  have F108 : σ108 a0 = updV (updV (updV (updV (updV (updV (updV (updV (updV (updV (updV (σ a0) 0 (.ref h8)) 1 (.int 0)) 2 (.ref h19)) 3 (.ref h30)) 4 (.ref h41)) 5 (.ref h52)) 6 (.ref h63)) 7 (.ref h74)) 8 (.int 0)) 9 (.ref h90)) 10 (.ref h101) := by rw [es108, q_upF, F105]
  have x108 : ∀ b, b ≠ a0 → σ108 b = σ105 b := by rw [es108]; exact fun b hb => q_up_ne hb
  show q_O X 73 3629 τ105 σ108 111 [(0, .ref a0)] []
  have ld108 : zz_ld τ105 σ108 h30 lr h41 := ld105.put x108 A105.1
  have rd108_0 : zz_rd τ105 σ108 h52 y56_0 y56_1 y56_2 := rd105_0.put x108 A105.1
  have rd108_1 : zz_rd τ105 σ108 h63 y67_0 y67_1 y67_2 := rd105_1.put x108 A105.1
  have rd108_2 : zz_rd τ105 σ108 h74 y78_0 y78_1 y78_2 := rd105_2.put x108 A105.1
  have nd108_0 : zw_M τ105 N56 (fx_N σ108) := nd105_0.put x108 A105.1
  have nd108_1 : zw_M τ105 N67 (fx_N σ108) := nd105_1.put x108 A105.1
  have nd108_2 : zw_M τ105 N78 (fx_N σ108) := nd105_2.put x108 A105.1
  have W108 : σ108 h52 0 = .int 16 := (congrFun (x108 h52 NA) 0).trans W105
  refine q_aload_n (pc := 111) hG dX11_init_111 0 rfl ?_
  refine q_newO (pc := 112) hG kl_0 w185 w186 w8 dX11_init_112 ⟨by decide, by decide⟩ (fun h112 n112 => ?_)
  obtain ⟨τ112, et112⟩ : ∃ t : q_T, t = q_tu τ105 h112 (0, 0) := ⟨_, rfl⟩
  obtain ⟨σ112, es112⟩ : ∃ t : q_V, t = q_vu σ108 h112 (fun j => defaultValue (tyX0 j)) := ⟨_, rfl⟩
  rw [← et112, ← es112]
  have x112 : q_ex τ105 σ108 τ112 σ112 := by rw [et112, es112]; exact q_ex.mk n112 (Or.inl (by decide))
  have T112 : τ112 h112 = some (0, 0) := by rw [et112]; exact q_tu_new
  have z112 : σ112 h112 = (fun j => defaultValue (tyX0 j)) := by rw [es112]; exact q_vu_new
  have I112 : q_I τ112 σ112 := by rw [et112, es112]; exact q_I.mk I108 n112 (fun j hj => absurd (show j < 0 from hj) (Nat.not_lt_zero j))
  have A112 := x112.1 a0 _ A105.1
  have F112 : σ112 a0 = updV (updV (updV (updV (updV (updV (updV (updV (updV (updV (updV (σ a0) 0 (.ref h8)) 1 (.int 0)) 2 (.ref h19)) 3 (.ref h30)) 4 (.ref h41)) 5 (.ref h52)) 6 (.ref h63)) 7 (.ref h74)) 8 (.int 0)) 9 (.ref h90)) 10 (.ref h101) := A112.2.trans F108
  show q_O X 74 3633 τ112 σ112 115 [(0, .ref a0)] [.ref h112, .ref a0]
  have ld112 : zz_ld τ112 σ112 h30 lr h41 := ld108.new x112.1
  have rd112_0 : zz_rd τ112 σ112 h52 y56_0 y56_1 y56_2 := rd108_0.new x112.1
  have rd112_1 : zz_rd τ112 σ112 h63 y67_0 y67_1 y67_2 := rd108_1.new x112.1
  have rd112_2 : zz_rd τ112 σ112 h74 y78_0 y78_1 y78_2 := rd108_2.new x112.1
  have nd112_0 : zw_M τ112 N56 (fx_N σ112) := nd108_0.new x112.1
  have nd112_1 : zw_M τ112 N67 (fx_N σ112) := nd108_1.new x112.1
  have nd112_2 : zw_M τ112 N78 (fx_N σ112) := nd108_2.new x112.1
  have W112 : σ112 h52 0 = .int 16 := (congrFun (x112.1 h52 _ U105_h52).2 0).trans W108
  refine q_dup (pc := 115) hG dX11_init_115 rfl ?_
  refine q_callIN (pc := 116) (rest := [.ref h112, .ref a0]) [] hG (c_X0_init τ112 σ112 h112 I112 T112) my_X0_init ⟨rfl, w187⟩ nw_8 dX11_init_116 rfl rfl (Nat.le_of_ble_eq_true rfl) ⟨by decide, by decide, by decide, by decide⟩ (fun _ τ116 σ116 P116 => ?_)
  obtain ⟨E116, P116⟩ := P116
  have A116 := P116.2.2.1 a0 _ (q_neT A112.1 T112 (by decide)) A112.1
  have F116 : σ116 a0 = updV (updV (updV (updV (updV (updV (updV (updV (updV (updV (updV (σ a0) 0 (.ref h8)) 1 (.int 0)) 2 (.ref h19)) 3 (.ref h30)) 4 (.ref h41)) 5 (.ref h52)) 6 (.ref h63)) 7 (.ref h74)) 8 (.int 0)) 9 (.ref h90)) 10 (.ref h101) := (A116.2.1 (Or.inl rfl)).trans F112
  have U116_h8b := (x112.1 h8 _ U105_h8).1
  have U116_h8 := (P116.2.2.1 h8 _ (q_neT U116_h8b T112 (by decide)) U116_h8b).1
  have U116_h19b := (x112.1 h19 _ U105_h19).1
  have U116_h19 := (P116.2.2.1 h19 _ (q_neT U116_h19b T112 (by decide)) U116_h19b).1
  have U116_h30b := (x112.1 h30 _ U105_h30).1
  have U116_h30 := (P116.2.2.1 h30 _ (q_neT U116_h30b T112 (by decide)) U116_h30b).1
  have U116_h41b := (x112.1 h41 _ U105_h41).1
  have U116_h41 := (P116.2.2.1 h41 _ (q_neT U116_h41b T112 (by decide)) U116_h41b).1
  have U116_h52b := (x112.1 h52 _ U105_h52).1
  have U116_h52 := (P116.2.2.1 h52 _ (q_neT U116_h52b T112 (by decide)) U116_h52b).1
  have U116_h63b := (x112.1 h63 _ U105_h63).1
  have U116_h63 := (P116.2.2.1 h63 _ (q_neT U116_h63b T112 (by decide)) U116_h63b).1
  have U116_h74b := (x112.1 h74 _ U105_h74).1
  have U116_h74 := (P116.2.2.1 h74 _ (q_neT U116_h74b T112 (by decide)) U116_h74b).1
  have U116_h90b := (x112.1 h90 _ U105_h90).1
  have U116_h90 := (P116.2.2.1 h90 _ (q_neT U116_h90b T112 (by decide)) U116_h90b).1
  have U116_h101b := (x112.1 h101 _ P105.2.1).1
  have U116_h101 := (P116.2.2.1 h101 _ (q_neT U116_h101b T112 (by decide)) U116_h101b).1
  show q_O X 75 3697 τ116 σ116 119 [(0, .ref a0)] [.ref h112, .ref a0]
  have ld116 : zz_ld τ116 σ116 h30 lr h41 := ld112.call P116.2.2.1 T112
  have rd116_0 : zz_rd τ116 σ116 h52 y56_0 y56_1 y56_2 := rd112_0.call (zz_lxn P116.2.2.1) T112
  have rd116_1 : zz_rd τ116 σ116 h63 y67_0 y67_1 y67_2 := rd112_1.call (zz_lxn P116.2.2.1) T112
  have rd116_2 : zz_rd τ116 σ116 h74 y78_0 y78_1 y78_2 := rd112_2.call (zz_lxn P116.2.2.1) T112
  have nd116_0 : zw_M τ116 N56 (fx_N σ116) := nd112_0.call P116.2.2.1 E116 T112
  have nd116_1 : zw_M τ116 N67 (fx_N σ116) := nd112_1.call P116.2.2.1 E116 T112
  have nd116_2 : zw_M τ116 N78 (fx_N σ116) := nd112_2.call P116.2.2.1 E116 T112
  have W116 : σ116 h52 0 = .int 16 := ((P116.2.2.1 h52 _ (q_neT (x112.1 h52 _ U105_h52).1 T112 (by decide)) (x112.1 h52 _ U105_h52).1).2.2 rfl 0 (by decide)).trans W112
  refine q_putF (pc := 119) hG hnm fl_X11_72 (fun r hr => by cases hr; rfl) dX11_init_119 A116.1 rfl rfl ?_
  obtain ⟨σ119, es119⟩ : ∃ t : q_V, t = q_up σ116 a0 11 (.ref h112) := ⟨_, rfl⟩
  rw [← es119]
  have I119 : q_I τ116 σ119 := by rw [es119]; exact P116.1.put A116.1 (fun hj => absurd (show 11 < 0 from hj) (Nat.not_lt_zero _))
  have F119 : σ119 a0 = updV (updV (updV (updV (updV (updV (updV (updV (updV (updV (updV (updV (σ a0) 0 (.ref h8)) 1 (.int 0)) 2 (.ref h19)) 3 (.ref h30)) 4 (.ref h41)) 5 (.ref h52)) 6 (.ref h63)) 7 (.ref h74)) 8 (.int 0)) 9 (.ref h90)) 10 (.ref h101)) 11 (.ref h112) := by rw [es119, q_upF, F116]
  have x119 : ∀ b, b ≠ a0 → σ119 b = σ116 b := by rw [es119]; exact fun b hb => q_up_ne hb
  show q_O X 75 3697 τ116 σ119 122 [(0, .ref a0)] []
  have ld119 : zz_ld τ116 σ119 h30 lr h41 := ld116.put x119 A116.1
  have rd119_0 : zz_rd τ116 σ119 h52 y56_0 y56_1 y56_2 := rd116_0.put x119 A116.1
  have rd119_1 : zz_rd τ116 σ119 h63 y67_0 y67_1 y67_2 := rd116_1.put x119 A116.1
  have rd119_2 : zz_rd τ116 σ119 h74 y78_0 y78_1 y78_2 := rd116_2.put x119 A116.1
  have nd119_0 : zw_M τ116 N56 (fx_N σ119) := nd116_0.put x119 A116.1
  have nd119_1 : zw_M τ116 N67 (fx_N σ119) := nd116_1.put x119 A116.1
  have nd119_2 : zw_M τ116 N78 (fx_N σ119) := nd116_2.put x119 A116.1
  have W119 : σ119 h52 0 = .int 16 := (congrFun (x119 h52 NA) 0).trans W116
  refine q_aload_n (pc := 122) hG dX11_init_122 0 rfl ?_
  refine q_newO (pc := 123) hG kl_8 w198 w199 w9 dX11_init_123 ⟨by decide, by decide⟩ (fun h123 n123 => ?_)
  obtain ⟨τ123, et123⟩ : ∃ t : q_T, t = q_tu τ116 h123 (8, 0) := ⟨_, rfl⟩
  obtain ⟨σ123, es123⟩ : ∃ t : q_V, t = q_vu σ119 h123 (fun j => defaultValue (tyX10 j)) := ⟨_, rfl⟩
  rw [← et123, ← es123]
  have x123 : q_ex τ116 σ119 τ123 σ123 := by rw [et123, es123]; exact q_ex.mk n123 (Or.inl (by decide))
  have T123 : τ123 h123 = some (8, 0) := by rw [et123]; exact q_tu_new
  have z123 : σ123 h123 = (fun j => defaultValue (tyX10 j)) := by rw [es123]; exact q_vu_new
  have I123 : q_I τ123 σ123 := by rw [et123, es123]; exact q_I.mk I119 n123 (fun j hj => absurd (show j < 0 from hj) (Nat.not_lt_zero j))
  have A123 := x123.1 a0 _ A116.1
  have F123 : σ123 a0 = updV (updV (updV (updV (updV (updV (updV (updV (updV (updV (updV (updV (σ a0) 0 (.ref h8)) 1 (.int 0)) 2 (.ref h19)) 3 (.ref h30)) 4 (.ref h41)) 5 (.ref h52)) 6 (.ref h63)) 7 (.ref h74)) 8 (.int 0)) 9 (.ref h90)) 10 (.ref h101)) 11 (.ref h112) := A123.2.trans F119
  show q_O X 76 3699 τ123 σ123 126 [(0, .ref a0)] [.ref h123, .ref a0]
  have ld123 : zz_ld τ123 σ123 h30 lr h41 := ld119.new x123.1
  have rd123_0 : zz_rd τ123 σ123 h52 y56_0 y56_1 y56_2 := rd119_0.new x123.1
  have rd123_1 : zz_rd τ123 σ123 h63 y67_0 y67_1 y67_2 := rd119_1.new x123.1
  have rd123_2 : zz_rd τ123 σ123 h74 y78_0 y78_1 y78_2 := rd119_2.new x123.1
  have nd123_0 : zw_M τ123 N56 (fx_N σ123) := nd119_0.new x123.1
  have nd123_1 : zw_M τ123 N67 (fx_N σ123) := nd119_1.new x123.1
  have nd123_2 : zw_M τ123 N78 (fx_N σ123) := nd119_2.new x123.1
  have W123 : σ123 h52 0 = .int 16 := (congrFun (x123.1 h52 _ U116_h52).2 0).trans W119
  refine q_dup (pc := 126) hG dX11_init_126 rfl ?_
  refine q_callIN (pc := 127) (rest := [.ref h123, .ref a0]) [] hG (c_X10_init τ123 σ123 h123 I123 T123) my_X10_init ⟨rfl, w200⟩ nw_9 dX11_init_127 rfl rfl (Nat.le_of_ble_eq_true rfl) ⟨by decide, by decide, by decide, by decide⟩ (fun _ τ127 σ127 P127 => ?_)
  obtain ⟨E127, P127⟩ := P127
  have A127 := P127.2.2.1 a0 _ (q_neT A123.1 T123 (by decide)) A123.1
  have F127 : σ127 a0 = updV (updV (updV (updV (updV (updV (updV (updV (updV (updV (updV (updV (σ a0) 0 (.ref h8)) 1 (.int 0)) 2 (.ref h19)) 3 (.ref h30)) 4 (.ref h41)) 5 (.ref h52)) 6 (.ref h63)) 7 (.ref h74)) 8 (.int 0)) 9 (.ref h90)) 10 (.ref h101)) 11 (.ref h112) := (A127.2.1 (Or.inl rfl)).trans F123
  have U127_h8b := (x123.1 h8 _ U116_h8).1
  have U127_h8 := (P127.2.2.1 h8 _ (q_neT U127_h8b T123 (by decide)) U127_h8b).1
  have U127_h19b := (x123.1 h19 _ U116_h19).1
  have U127_h19 := (P127.2.2.1 h19 _ (q_neT U127_h19b T123 (by decide)) U127_h19b).1
  have U127_h30b := (x123.1 h30 _ U116_h30).1
  have U127_h30 := (P127.2.2.1 h30 _ (q_neT U127_h30b T123 (by decide)) U127_h30b).1
  have U127_h41b := (x123.1 h41 _ U116_h41).1
  have U127_h41 := (P127.2.2.1 h41 _ (q_neT U127_h41b T123 (by decide)) U127_h41b).1
  have U127_h52b := (x123.1 h52 _ U116_h52).1
  have U127_h52 := (P127.2.2.1 h52 _ (q_neT U127_h52b T123 (by decide)) U127_h52b).1
  have U127_h63b := (x123.1 h63 _ U116_h63).1
  have U127_h63 := (P127.2.2.1 h63 _ (q_neT U127_h63b T123 (by decide)) U127_h63b).1
  have U127_h74b := (x123.1 h74 _ U116_h74).1
  have U127_h74 := (P127.2.2.1 h74 _ (q_neT U127_h74b T123 (by decide)) U127_h74b).1
  have U127_h90b := (x123.1 h90 _ U116_h90).1
  have U127_h90 := (P127.2.2.1 h90 _ (q_neT U127_h90b T123 (by decide)) U127_h90b).1
  have U127_h101b := (x123.1 h101 _ U116_h101).1
  have U127_h101 := (P127.2.2.1 h101 _ (q_neT U127_h101b T123 (by decide)) U127_h101b).1
  have U127_h112b := (x123.1 h112 _ P116.2.1).1
  have U127_h112 := (P127.2.2.1 h112 _ (q_neT U127_h112b T123 (by decide)) U127_h112b).1
  show q_O X 83 4033 τ127 σ127 130 [(0, .ref a0)] [.ref h123, .ref a0]
  have ld127 : zz_ld τ127 σ127 h30 lr h41 := ld123.call P127.2.2.1 T123
  have rd127_0 : zz_rd τ127 σ127 h52 y56_0 y56_1 y56_2 := rd123_0.call (zz_lxn P127.2.2.1) T123
  have rd127_1 : zz_rd τ127 σ127 h63 y67_0 y67_1 y67_2 := rd123_1.call (zz_lxn P127.2.2.1) T123
  have rd127_2 : zz_rd τ127 σ127 h74 y78_0 y78_1 y78_2 := rd123_2.call (zz_lxn P127.2.2.1) T123
  have nd127_0 : zw_M τ127 N56 (fx_N σ127) := nd123_0.call P127.2.2.1 E127 T123
  have nd127_1 : zw_M τ127 N67 (fx_N σ127) := nd123_1.call P127.2.2.1 E127 T123
  have nd127_2 : zw_M τ127 N78 (fx_N σ127) := nd123_2.call P127.2.2.1 E127 T123
  have W127 : σ127 h52 0 = .int 16 := ((P127.2.2.1 h52 _ (q_neT (x123.1 h52 _ U116_h52).1 T123 (by decide)) (x123.1 h52 _ U116_h52).1).2.2 rfl 0 (by decide)).trans W123
  refine q_putF (pc := 130) hG hnm fl_X11_79 (fun r hr => by cases hr; rfl) dX11_init_130 A127.1 rfl rfl ?_
  obtain ⟨σ130, es130⟩ : ∃ t : q_V, t = q_up σ127 a0 12 (.ref h123) := ⟨_, rfl⟩
  rw [← es130]
  have I130 : q_I τ127 σ130 := by rw [es130]; exact P127.1.put A127.1 (fun hj => absurd (show 12 < 0 from hj) (Nat.not_lt_zero _))
  have F130 : σ130 a0 = updV (updV (updV (updV (updV (updV (updV (updV (updV (updV (updV (updV (updV (σ a0) 0 (.ref h8)) 1 (.int 0)) 2 (.ref h19)) 3 (.ref h30)) 4 (.ref h41)) 5 (.ref h52)) 6 (.ref h63)) 7 (.ref h74)) 8 (.int 0)) 9 (.ref h90)) 10 (.ref h101)) 11 (.ref h112)) 12 (.ref h123) := by rw [es130, q_upF, F127]
  have x130 : ∀ b, b ≠ a0 → σ130 b = σ127 b := by rw [es130]; exact fun b hb => q_up_ne hb
  show q_O X 83 4033 τ127 σ130 133 [(0, .ref a0)] []
  have ld130 : zz_ld τ127 σ130 h30 lr h41 := ld127.put x130 A127.1
  have rd130_0 : zz_rd τ127 σ130 h52 y56_0 y56_1 y56_2 := rd127_0.put x130 A127.1
  have rd130_1 : zz_rd τ127 σ130 h63 y67_0 y67_1 y67_2 := rd127_1.put x130 A127.1
  have rd130_2 : zz_rd τ127 σ130 h74 y78_0 y78_1 y78_2 := rd127_2.put x130 A127.1
  have nd130_0 : zw_M τ127 N56 (fx_N σ130) := nd127_0.put x130 A127.1
  have nd130_1 : zw_M τ127 N67 (fx_N σ130) := nd127_1.put x130 A127.1
  have nd130_2 : zw_M τ127 N78 (fx_N σ130) := nd127_2.put x130 A127.1
  have W130 : σ130 h52 0 = .int 16 := (congrFun (x130 h52 NA) 0).trans W127
  refine q_aload_n (pc := 133) hG dX11_init_133 0 rfl ?_
  refine q_newO (pc := 134) hG kl_2 w208 w209 w10 dX11_init_134 ⟨by decide, by decide⟩ (fun h134 n134 => ?_)
  obtain ⟨τ134, et134⟩ : ∃ t : q_T, t = q_tu τ127 h134 (2, 0) := ⟨_, rfl⟩
  obtain ⟨σ134, es134⟩ : ∃ t : q_V, t = q_vu σ130 h134 (fun j => defaultValue (tyX2 j)) := ⟨_, rfl⟩
  rw [← et134, ← es134]
  have x134 : q_ex τ127 σ130 τ134 σ134 := by rw [et134, es134]; exact q_ex.mk n134 (Or.inl (by decide))
  have T134 : τ134 h134 = some (2, 0) := by rw [et134]; exact q_tu_new
  have z134 : σ134 h134 = (fun j => defaultValue (tyX2 j)) := by rw [es134]; exact q_vu_new
  have I134 : q_I τ134 σ134 := by rw [et134, es134]; exact q_I.mk I130 n134 (fun j hj => absurd (show j < 0 from hj) (Nat.not_lt_zero j))
  have A134 := x134.1 a0 _ A127.1
  have F134 : σ134 a0 = updV (updV (updV (updV (updV (updV (updV (updV (updV (updV (updV (updV (updV (σ a0) 0 (.ref h8)) 1 (.int 0)) 2 (.ref h19)) 3 (.ref h30)) 4 (.ref h41)) 5 (.ref h52)) 6 (.ref h63)) 7 (.ref h74)) 8 (.int 0)) 9 (.ref h90)) 10 (.ref h101)) 11 (.ref h112)) 12 (.ref h123) := A134.2.trans F130
  show q_O X 84 4037 τ134 σ134 137 [(0, .ref a0)] [.ref h134, .ref a0]
  have ld134 : zz_ld τ134 σ134 h30 lr h41 := ld130.new x134.1
  have rd134_0 : zz_rd τ134 σ134 h52 y56_0 y56_1 y56_2 := rd130_0.new x134.1
  have rd134_1 : zz_rd τ134 σ134 h63 y67_0 y67_1 y67_2 := rd130_1.new x134.1
  have rd134_2 : zz_rd τ134 σ134 h74 y78_0 y78_1 y78_2 := rd130_2.new x134.1
  have nd134_0 : zw_M τ134 N56 (fx_N σ134) := nd130_0.new x134.1
  have nd134_1 : zw_M τ134 N67 (fx_N σ134) := nd130_1.new x134.1
  have nd134_2 : zw_M τ134 N78 (fx_N σ134) := nd130_2.new x134.1
  have W134 : σ134 h52 0 = .int 16 := (congrFun (x134.1 h52 _ U127_h52).2 0).trans W130
  refine q_dup (pc := 137) hG dX11_init_137 rfl ?_
  refine q_callIN (pc := 138) (rest := [.ref h134, .ref a0]) [] hG (c_X2_init τ134 σ134 h134 I134 T134) my_X2_init ⟨rfl, w210⟩ nw_10 dX11_init_138 rfl rfl (Nat.le_of_ble_eq_true rfl) ⟨by decide, by decide, by decide, by decide⟩ (fun _ τ138 σ138 P138 => ?_)
  obtain ⟨E138, P138⟩ := P138
  have A138 := P138.2.2.1 a0 _ (q_neT A134.1 T134 (by decide)) A134.1
  have F138 : σ138 a0 = updV (updV (updV (updV (updV (updV (updV (updV (updV (updV (updV (updV (updV (σ a0) 0 (.ref h8)) 1 (.int 0)) 2 (.ref h19)) 3 (.ref h30)) 4 (.ref h41)) 5 (.ref h52)) 6 (.ref h63)) 7 (.ref h74)) 8 (.int 0)) 9 (.ref h90)) 10 (.ref h101)) 11 (.ref h112)) 12 (.ref h123) := (A138.2.1 (Or.inl rfl)).trans F134
  have U138_h8b := (x134.1 h8 _ U127_h8).1
  have U138_h8 := (P138.2.2.1 h8 _ (q_neT U138_h8b T134 (by decide)) U138_h8b).1
  have U138_h19b := (x134.1 h19 _ U127_h19).1
  have U138_h19 := (P138.2.2.1 h19 _ (q_neT U138_h19b T134 (by decide)) U138_h19b).1
  have U138_h30b := (x134.1 h30 _ U127_h30).1
  have U138_h30 := (P138.2.2.1 h30 _ (q_neT U138_h30b T134 (by decide)) U138_h30b).1
  have U138_h41b := (x134.1 h41 _ U127_h41).1
  have U138_h41 := (P138.2.2.1 h41 _ (q_neT U138_h41b T134 (by decide)) U138_h41b).1
  have U138_h52b := (x134.1 h52 _ U127_h52).1
  have U138_h52 := (P138.2.2.1 h52 _ (q_neT U138_h52b T134 (by decide)) U138_h52b).1
  have U138_h63b := (x134.1 h63 _ U127_h63).1
  have U138_h63 := (P138.2.2.1 h63 _ (q_neT U138_h63b T134 (by decide)) U138_h63b).1
  have U138_h74b := (x134.1 h74 _ U127_h74).1
  have U138_h74 := (P138.2.2.1 h74 _ (q_neT U138_h74b T134 (by decide)) U138_h74b).1
  have U138_h90b := (x134.1 h90 _ U127_h90).1
  have U138_h90 := (P138.2.2.1 h90 _ (q_neT U138_h90b T134 (by decide)) U138_h90b).1
  have U138_h101b := (x134.1 h101 _ U127_h101).1
  have U138_h101 := (P138.2.2.1 h101 _ (q_neT U138_h101b T134 (by decide)) U138_h101b).1
  have U138_h112b := (x134.1 h112 _ U127_h112).1
  have U138_h112 := (P138.2.2.1 h112 _ (q_neT U138_h112b T134 (by decide)) U138_h112b).1
  have U138_h123b := (x134.1 h123 _ P127.2.1).1
  have U138_h123 := (P138.2.2.1 h123 _ (q_neT U138_h123b T134 (by decide)) U138_h123b).1
  show q_O X 87 4079 τ138 σ138 141 [(0, .ref a0)] [.ref h134, .ref a0]
  have ld138 : zz_ld τ138 σ138 h30 lr h41 := ld134.call P138.2.2.1 T134
  have rd138_0 : zz_rd τ138 σ138 h52 y56_0 y56_1 y56_2 := rd134_0.call (zz_lxn P138.2.2.1) T134
  have rd138_1 : zz_rd τ138 σ138 h63 y67_0 y67_1 y67_2 := rd134_1.call (zz_lxn P138.2.2.1) T134
  have rd138_2 : zz_rd τ138 σ138 h74 y78_0 y78_1 y78_2 := rd134_2.call (zz_lxn P138.2.2.1) T134
  have nd138_0 : zw_M τ138 N56 (fx_N σ138) := nd134_0.call P138.2.2.1 E138 T134
  have nd138_1 : zw_M τ138 N67 (fx_N σ138) := nd134_1.call P138.2.2.1 E138 T134
  have nd138_2 : zw_M τ138 N78 (fx_N σ138) := nd134_2.call P138.2.2.1 E138 T134
  have W138 : σ138 h52 0 = .int 16 := ((P138.2.2.1 h52 _ (q_neT (x134.1 h52 _ U127_h52).1 T134 (by decide)) (x134.1 h52 _ U127_h52).1).2.2 rfl 0 (by decide)).trans W134
  refine q_putF (pc := 141) hG hnm fl_X11_86 (fun r hr => by cases hr; rfl) dX11_init_141 A138.1 rfl rfl ?_
  obtain ⟨σ141, es141⟩ : ∃ t : q_V, t = q_up σ138 a0 13 (.ref h134) := ⟨_, rfl⟩
  rw [← es141]
  have I141 : q_I τ138 σ141 := by rw [es141]; exact P138.1.put A138.1 (fun hj => absurd (show 13 < 0 from hj) (Nat.not_lt_zero _))
  have F141 : σ141 a0 = updV (updV (updV (updV (updV (updV (updV (updV (updV (updV (updV (updV (updV (updV (σ a0) 0 (.ref h8)) 1 (.int 0)) 2 (.ref h19)) 3 (.ref h30)) 4 (.ref h41)) 5 (.ref h52)) 6 (.ref h63)) 7 (.ref h74)) 8 (.int 0)) 9 (.ref h90)) 10 (.ref h101)) 11 (.ref h112)) 12 (.ref h123)) 13 (.ref h134) := by rw [es141, q_upF, F138]
  have x141 : ∀ b, b ≠ a0 → σ141 b = σ138 b := by rw [es141]; exact fun b hb => q_up_ne hb
  show q_O X 87 4079 τ138 σ141 144 [(0, .ref a0)] []
  have ld141 : zz_ld τ138 σ141 h30 lr h41 := ld138.put x141 A138.1
  have rd141_0 : zz_rd τ138 σ141 h52 y56_0 y56_1 y56_2 := rd138_0.put x141 A138.1
  have rd141_1 : zz_rd τ138 σ141 h63 y67_0 y67_1 y67_2 := rd138_1.put x141 A138.1
  have rd141_2 : zz_rd τ138 σ141 h74 y78_0 y78_1 y78_2 := rd138_2.put x141 A138.1
  have nd141_0 : zw_M τ138 N56 (fx_N σ141) := nd138_0.put x141 A138.1
  have nd141_1 : zw_M τ138 N67 (fx_N σ141) := nd138_1.put x141 A138.1
  have nd141_2 : zw_M τ138 N78 (fx_N σ141) := nd138_2.put x141 A138.1
  have W141 : σ141 h52 0 = .int 16 := (congrFun (x141 h52 NA) 0).trans W138
  have FR : ∀ (b : Nat) (x : Nat × Nat), b ≠ a0 → τ b = some x → τ138 b = some x ∧ (x = (9, 0) ∨ x = (4, 0) ∨ x = (118, 64) ∨ x = (4, 1) ∨ x = (3, 1) → σ141 b = σ b) ∧ (x = (6, 1) → ∀ j, j < 4 → σ141 b j = σ b j) := by
    intro b x ba hb
    obtain ⟨y8, v8⟩ := x8.1 b x hb
    have w8 : b ≠ h8 := fun e => by rw [e, n8] at hb; cases hb
    obtain ⟨y19, v19⟩ := x19.1 b x y8
    have w19 : b ≠ h19 := fun e => by rw [e, n19] at y8; cases y8
    obtain ⟨y23, v23⟩ := P23.2.2.1 b x w19 y19
    obtain ⟨y30, v30⟩ := x30.1 b x y23
    have w30 : b ≠ h30 := fun e => by rw [e, n30] at y23; cases y23
    obtain ⟨y34, v34⟩ := P34.2.2.1 b x w30 y30
    obtain ⟨y41, v41⟩ := x41.1 b x y34
    have w41 : b ≠ h41 := fun e => by rw [e, n41] at y34; cases y34
    obtain ⟨y45, v45⟩ := P45.2.2.1 b x w41 y41
    obtain ⟨y52, v52⟩ := x52.1 b x y45
    have w52 : b ≠ h52 := fun e => by rw [e, n52] at y45; cases y45
    obtain ⟨y56, v56⟩ := P56.2.2.1 b x w52 y52
    obtain ⟨y63, v63⟩ := x63.1 b x y56
    have w63 : b ≠ h63 := fun e => by rw [e, n63] at y56; cases y56
    obtain ⟨y67, v67⟩ := P67.2.2.1 b x w63 y63
    obtain ⟨y74, v74⟩ := x74.1 b x y67
    have w74 : b ≠ h74 := fun e => by rw [e, n74] at y67; cases y67
    obtain ⟨y78, v78⟩ := P78.2.2.1 b x w74 y74
    obtain ⟨y90, v90⟩ := x90.1 b x y78
    have w90 : b ≠ h90 := fun e => by rw [e, n90] at y78; cases y78
    obtain ⟨y94, v94⟩ := P94.2.2.1 b x w90 y90
    obtain ⟨y101, v101⟩ := x101.1 b x y94
    have w101 : b ≠ h101 := fun e => by rw [e, n101] at y94; cases y94
    obtain ⟨y105, v105⟩ := P105.2.2.1 b x w101 y101
    obtain ⟨y112, v112⟩ := x112.1 b x y105
    have w112 : b ≠ h112 := fun e => by rw [e, n112] at y105; cases y105
    obtain ⟨y116, v116⟩ := P116.2.2.1 b x w112 y112
    obtain ⟨y123, v123⟩ := x123.1 b x y116
    have w123 : b ≠ h123 := fun e => by rw [e, n123] at y116; cases y116
    obtain ⟨y127, v127⟩ := P127.2.2.1 b x w123 y123
    obtain ⟨y134, v134⟩ := x134.1 b x y127
    have w134 : b ≠ h134 := fun e => by rw [e, n134] at y127; cases y127
    obtain ⟨y138, v138⟩ := P138.2.2.1 b x w134 y134
    refine ⟨y138, fun hx => ?_, fun hx => ?_⟩
    · skip
      have u0 : σ b = σ b := rfl
      have u8 := v8.trans u0
      have u10 := (x10 b ba).trans u8
      have u15 := (x15 b ba).trans u10
      have u19 := v19.trans u15
      have u23 := (v23.1 hx).trans u19
      have u26 := (x26 b ba).trans u23
      have u30 := v30.trans u26
      have u34 := (v34.1 hx).trans u30
      have u37 := (x37 b ba).trans u34
      have u41 := v41.trans u37
      have u45 := (v45.1 hx).trans u41
      have u48 := (x48 b ba).trans u45
      have u52 := v52.trans u48
      have u56 := (v56.1 hx).trans u52
      have u59 := (x59 b ba).trans u56
      have u63 := v63.trans u59
      have u67 := (v67.1 hx).trans u63
      have u70 := (x70 b ba).trans u67
      have u74 := v74.trans u70
      have u78 := (v78.1 hx).trans u74
      have u81 := (x81 b ba).trans u78
      have u86 := (x86 b ba).trans u81
      have u90 := v90.trans u86
      have u94 := (v94.1 hx).trans u90
      have u97 := (x97 b ba).trans u94
      have u101 := v101.trans u97
      have u105 := (v105.1 hx).trans u101
      have u108 := (x108 b ba).trans u105
      have u112 := v112.trans u108
      have u116 := (v116.1 hx).trans u112
      have u119 := (x119 b ba).trans u116
      have u123 := v123.trans u119
      have u127 := (v127.1 hx).trans u123
      have u130 := (x130 b ba).trans u127
      have u134 := v134.trans u130
      have u138 := (v138.1 hx).trans u134
      have u141 := (x141 b ba).trans u138
      exact u141
    · intro j hj
      have u0 : σ b j = σ b j := rfl
      have u8 := (congrFun v8 j).trans u0
      have u10 := (congrFun (x10 b ba) j).trans u8
      have u15 := (congrFun (x15 b ba) j).trans u10
      have u19 := (congrFun v19 j).trans u15
      have u23 := (v23.2 hx j hj).trans u19
      have u26 := (congrFun (x26 b ba) j).trans u23
      have u30 := (congrFun v30 j).trans u26
      have u34 := (v34.2 hx j hj).trans u30
      have u37 := (congrFun (x37 b ba) j).trans u34
      have u41 := (congrFun v41 j).trans u37
      have u45 := (v45.2 hx j hj).trans u41
      have u48 := (congrFun (x48 b ba) j).trans u45
      have u52 := (congrFun v52 j).trans u48
      have u56 := (v56.2 hx j hj).trans u52
      have u59 := (congrFun (x59 b ba) j).trans u56
      have u63 := (congrFun v63 j).trans u59
      have u67 := (v67.2 hx j hj).trans u63
      have u70 := (congrFun (x70 b ba) j).trans u67
      have u74 := (congrFun v74 j).trans u70
      have u78 := (v78.2 hx j hj).trans u74
      have u81 := (congrFun (x81 b ba) j).trans u78
      have u86 := (congrFun (x86 b ba) j).trans u81
      have u90 := (congrFun v90 j).trans u86
      have u94 := (v94.2 hx j hj).trans u90
      have u97 := (congrFun (x97 b ba) j).trans u94
      have u101 := (congrFun v101 j).trans u97
      have u105 := (v105.2 hx j hj).trans u101
      have u108 := (congrFun (x108 b ba) j).trans u105
      have u112 := (congrFun v112 j).trans u108
      have u116 := (v116.2 hx j hj).trans u112
      have u119 := (congrFun (x119 b ba) j).trans u116
      have u123 := (congrFun v123 j).trans u119
      have u127 := (v127.2 hx j hj).trans u123
      have u130 := (congrFun (x130 b ba) j).trans u127
      have u134 := (congrFun v134 j).trans u130
      have u138 := (v138.2 hx j hj).trans u134
      have u141 := (congrFun (x141 b ba) j).trans u138
      exact u141
  have EX : ∀ (b : Nat) (x : Nat × Nat), b ≠ a0 → τ b = some x → ∀ i : Nat, fx_N σ141 b i = fx_N σ b i := by
    intro b x ba hb i
    have e0 : fx_N σ b i = fx_N σ b i := rfl
    obtain ⟨y8, v8⟩ := x8.1 b x hb
    have w8 : b ≠ h8 := fun e => by rw [e, n8] at hb; cases hb
    have e8 := (congrArg fx_num (congrFun v8 i)).trans e0
    have e10 := (congrArg fx_num (congrFun (x10 b ba) i)).trans e8
    have e15 := (congrArg fx_num (congrFun (x15 b ba) i)).trans e10
    obtain ⟨y19, v19⟩ := x19.1 b x y8
    have w19 : b ≠ h19 := fun e => by rw [e, n19] at y8; cases y8
    have e19 := (congrArg fx_num (congrFun v19 i)).trans e15
    have e23 := (E23 b x w19 y19 i).trans e19
    obtain ⟨y23, -⟩ := P23.2.2.1 b x w19 y19
    have e26 := (congrArg fx_num (congrFun (x26 b ba) i)).trans e23
    obtain ⟨y30, v30⟩ := x30.1 b x y23
    have w30 : b ≠ h30 := fun e => by rw [e, n30] at y23; cases y23
    have e30 := (congrArg fx_num (congrFun v30 i)).trans e26
    have e34 := (E34 b x w30 y30 i).trans e30
    obtain ⟨y34, -⟩ := P34.2.2.1 b x w30 y30
    have e37 := (congrArg fx_num (congrFun (x37 b ba) i)).trans e34
    obtain ⟨y41, v41⟩ := x41.1 b x y34
    have w41 : b ≠ h41 := fun e => by rw [e, n41] at y34; cases y34
    have e41 := (congrArg fx_num (congrFun v41 i)).trans e37
    have e45 := (E45 b x w41 y41 i).trans e41
    obtain ⟨y45, -⟩ := P45.2.2.1 b x w41 y41
    have e48 := (congrArg fx_num (congrFun (x48 b ba) i)).trans e45
    obtain ⟨y52, v52⟩ := x52.1 b x y45
    have w52 : b ≠ h52 := fun e => by rw [e, n52] at y45; cases y45
    have e52 := (congrArg fx_num (congrFun v52 i)).trans e48
    have e56 := (E56 b x w52 y52 i).trans e52
    obtain ⟨y56, -⟩ := P56.2.2.1 b x w52 y52
    have e59 := (congrArg fx_num (congrFun (x59 b ba) i)).trans e56
    obtain ⟨y63, v63⟩ := x63.1 b x y56
    have w63 : b ≠ h63 := fun e => by rw [e, n63] at y56; cases y56
    have e63 := (congrArg fx_num (congrFun v63 i)).trans e59
    have e67 := (E67 b x w63 y63 i).trans e63
    obtain ⟨y67, -⟩ := P67.2.2.1 b x w63 y63
    have e70 := (congrArg fx_num (congrFun (x70 b ba) i)).trans e67
    obtain ⟨y74, v74⟩ := x74.1 b x y67
    have w74 : b ≠ h74 := fun e => by rw [e, n74] at y67; cases y67
    have e74 := (congrArg fx_num (congrFun v74 i)).trans e70
    have e78 := (E78 b x w74 y74 i).trans e74
    obtain ⟨y78, -⟩ := P78.2.2.1 b x w74 y74
    have e81 := (congrArg fx_num (congrFun (x81 b ba) i)).trans e78
    have e86 := (congrArg fx_num (congrFun (x86 b ba) i)).trans e81
    obtain ⟨y90, v90⟩ := x90.1 b x y78
    have w90 : b ≠ h90 := fun e => by rw [e, n90] at y78; cases y78
    have e90 := (congrArg fx_num (congrFun v90 i)).trans e86
    have e94 := (E94 b x w90 y90 i).trans e90
    obtain ⟨y94, -⟩ := P94.2.2.1 b x w90 y90
    have e97 := (congrArg fx_num (congrFun (x97 b ba) i)).trans e94
    obtain ⟨y101, v101⟩ := x101.1 b x y94
    have w101 : b ≠ h101 := fun e => by rw [e, n101] at y94; cases y94
    have e101 := (congrArg fx_num (congrFun v101 i)).trans e97
    have e105 := (E105 b x w101 y101 i).trans e101
    obtain ⟨y105, -⟩ := P105.2.2.1 b x w101 y101
    have e108 := (congrArg fx_num (congrFun (x108 b ba) i)).trans e105
    obtain ⟨y112, v112⟩ := x112.1 b x y105
    have w112 : b ≠ h112 := fun e => by rw [e, n112] at y105; cases y105
    have e112 := (congrArg fx_num (congrFun v112 i)).trans e108
    have e116 := (E116 b x w112 y112 i).trans e112
    obtain ⟨y116, -⟩ := P116.2.2.1 b x w112 y112
    have e119 := (congrArg fx_num (congrFun (x119 b ba) i)).trans e116
    obtain ⟨y123, v123⟩ := x123.1 b x y116
    have w123 : b ≠ h123 := fun e => by rw [e, n123] at y116; cases y116
    have e123 := (congrArg fx_num (congrFun v123 i)).trans e119
    have e127 := (E127 b x w123 y123 i).trans e123
    obtain ⟨y127, -⟩ := P127.2.2.1 b x w123 y123
    have e130 := (congrArg fx_num (congrFun (x130 b ba) i)).trans e127
    obtain ⟨y134, v134⟩ := x134.1 b x y127
    have w134 : b ≠ h134 := fun e => by rw [e, n134] at y127; cases y127
    have e134 := (congrArg fx_num (congrFun v134 i)).trans e130
    have e138 := (E138 b x w134 y134 i).trans e134
    obtain ⟨y138, -⟩ := P138.2.2.1 b x w134 y134
    have e141 := (congrArg fx_num (congrFun (x141 b ba) i)).trans e138
    exact e141
  have N3 : ∀ b n : Nat, τ138 b = some (103, n) → τ b = some (103, n) := by
    intro b n hb
    have k138 := P138.2.2.2 b n hb
    have k134 := x134.2 b n k138
    have k127 := P127.2.2.2 b n k134
    have k123 := x123.2 b n k127
    have k116 := P116.2.2.2 b n k123
    have k112 := x112.2 b n k116
    have k105 := P105.2.2.2 b n k112
    have k101 := x101.2 b n k105
    have k94 := P94.2.2.2 b n k101
    have k90 := x90.2 b n k94
    have k78 := P78.2.2.2 b n k90
    have k74 := x74.2 b n k78
    have k67 := P67.2.2.2 b n k74
    have k63 := x63.2 b n k67
    have k56 := P56.2.2.2 b n k63
    have k52 := x52.2 b n k56
    have k45 := P45.2.2.2 b n k52
    have k41 := x41.2 b n k45
    have k34 := P34.2.2.2 b n k41
    have k30 := x30.2 b n k34
    have k23 := P23.2.2.2 b n k30
    have k19 := x19.2 b n k23
    have k8 := x8.2 b n k19
    exact k8
  have HF : ∀ j, j < q_nf 9 → q_v (q_tu τ138 a0 (9, 1)) (q_f 9 j) (σ141 a0 j) := by
    rw [F141]
    intro j hj
    rcases j with _ | j
    · show q_v _ (q_f 9 0) (.ref h8); exact q_vr (k := 110) (n := 260) ff_9_0 ((q_tu_ne (q_neT U138_h8 A138.1 (by decide))).trans U138_h8) (by decide)
    rcases j with _ | j
    · show q_v _ (q_f 9 1) (.int 0); exact q_vi ff_9_1 rl_0 (by decide)
    rcases j with _ | j
    · show q_v _ (q_f 9 2) (.ref h19); exact q_vr (k := 7) (n := 1) ff_9_2 ((q_tu_ne (q_neT U138_h19 A138.1 (by decide))).trans U138_h19) (by decide)
    rcases j with _ | j
    · show q_v _ (q_f 9 3) (.ref h30); exact q_vr (k := 4) (n := 1) ff_9_3 ((q_tu_ne (q_neT U138_h30 A138.1 (by decide))).trans U138_h30) (by decide)
    rcases j with _ | j
    · show q_v _ (q_f 9 4) (.ref h41); exact q_vr (k := 3) (n := 1) ff_9_4 ((q_tu_ne (q_neT U138_h41 A138.1 (by decide))).trans U138_h41) (by decide)
    rcases j with _ | j
    · show q_v _ (q_f 9 5) (.ref h52); exact q_vr (k := 6) (n := 1) ff_9_5 ((q_tu_ne (q_neT U138_h52 A138.1 (by decide))).trans U138_h52) (by decide)
    rcases j with _ | j
    · show q_v _ (q_f 9 6) (.ref h63); exact q_vr (k := 6) (n := 1) ff_9_6 ((q_tu_ne (q_neT U138_h63 A138.1 (by decide))).trans U138_h63) (by decide)
    rcases j with _ | j
    · show q_v _ (q_f 9 7) (.ref h74); exact q_vr (k := 6) (n := 1) ff_9_7 ((q_tu_ne (q_neT U138_h74 A138.1 (by decide))).trans U138_h74) (by decide)
    rcases j with _ | j
    · show q_v _ (q_f 9 8) (.int 0); exact q_vi ff_9_8 rl_0 (by decide)
    rcases j with _ | j
    · show q_v _ (q_f 9 9) (.ref h90); exact q_vr (k := 5) (n := 1) ff_9_9 ((q_tu_ne (q_neT U138_h90 A138.1 (by decide))).trans U138_h90) (by decide)
    rcases j with _ | j
    · show q_v _ (q_f 9 10) (.ref h101); exact q_vr (k := 1) (n := 1) ff_9_10 ((q_tu_ne (q_neT U138_h101 A138.1 (by decide))).trans U138_h101) (by decide)
    rcases j with _ | j
    · show q_v _ (q_f 9 11) (.ref h112); exact q_vr (k := 0) (n := 1) ff_9_11 ((q_tu_ne (q_neT U138_h112 A138.1 (by decide))).trans U138_h112) (by decide)
    rcases j with _ | j
    · show q_v _ (q_f 9 12) (.ref h123); exact q_vr (k := 8) (n := 1) ff_9_12 ((q_tu_ne (q_neT U138_h123 A138.1 (by decide))).trans U138_h123) (by decide)
    rcases j with _ | j
    · show q_v _ (q_f 9 13) (.ref h134); exact q_vr (k := 2) (n := 1) ff_9_13 ((q_tu_ne (q_neT P138.2.1 A138.1 (by decide))).trans P138.2.1) (by decide)
    exact absurd hj (by show ¬ _ < 14; omega)
  refine q_retype A138.1 (by decide) ?_
  exact q_vret hG hE dX11_init_144 ⟨EX, ⟨⟨I141.made (by decide) A138.1 HF, q_tu_new, fun b x hb h => by rw [q_tu_ne hb]; exact FR b x hb h, fun b n h => Classical.byCases (fun e : b = a0 => by rw [e, q_tu_new] at h; cases h) (fun e => by rw [q_tu_ne e] at h; exact N3 b n h)⟩, by rw [F141]; rfl, by rw [F141]; rfl, h52, h63, h74, ⟨by rw [F141]; rfl, by rw [F141]; rfl, by rw [F141]; rfl⟩, ⟨Ne.symm NR63_h52, NR74_h52, NR74_h63⟩, W141, y56_0, y56_1, y56_2, y67_0, y67_1, y67_2, y78_0, y78_1, y78_2, rd141_0.2.2.1, rd141_1.2.2.1, rd141_2.2.2.1, ap67_0, ap78_0, ap78_1, rd141_0.2.2.2.2.2, h30, lr, h41, (by rw [F141]; rfl), (by rw [F141]; rfl), ld141.2, N56, N67, N78, ⟨nz56, nz67, nz78⟩, ⟨nd141_0.tu A138.1, nd141_1.tu A138.1, nd141_2.tu A138.1⟩, na67_0, na78_0, na78_1⟩⟩
