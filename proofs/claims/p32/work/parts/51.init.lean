/-! constructors, laid by wip/p2/ctor.py -/
theorem q_neT {τ : q_T} {b c : Nat} {x y : Nat × Nat} (hb : τ b = some x) (hc : τ c = some y) (h : x ≠ y) : b ≠ c := fun e => by
  rw [e, hc] at hb
  exact h (Option.some.inj hb).symm
theorem ai_103 : q_ki 103 0 (-2147483648) 2147483647 := ⟨by decide, by decide, fun _ => rfl⟩
theorem dX0_init_0 : decode cX0_init 0 = .ok (.aload_n 0, 1) := by decide +kernel
theorem dX0_init_1 : decode cX0_init 1 = .ok (.invokespecial 3, 3) := by decide +kernel
theorem dX0_init_4 : decode cX0_init 4 = .ok (.aload_n 0, 1) := by decide +kernel
theorem dX0_init_5 : decode cX0_init 5 = .ok (.bipush 64, 2) := by decide +kernel
theorem dX0_init_7 : decode cX0_init 7 = .ok (.newarray .boolean, 2) := by decide +kernel
theorem dX0_init_9 : decode cX0_init 9 = .ok (.putfield 9, 3) := by decide +kernel
theorem dX0_init_12 : decode cX0_init 12 = .ok (.aload_n 0, 1) := by decide +kernel
theorem dX0_init_13 : decode cX0_init 13 = .ok (.iconst 0, 1) := by decide +kernel
theorem dX0_init_14 : decode cX0_init 14 = .ok (.putfield 15, 3) := by decide +kernel
theorem dX0_init_17 : decode cX0_init 17 = .ok (.aload_n 0, 1) := by decide +kernel
theorem dX0_init_18 : decode cX0_init 18 = .ok (.bipush (-2), 2) := by decide +kernel
theorem dX0_init_20 : decode cX0_init 20 = .ok (.putfield 19, 3) := by decide +kernel
theorem dX0_init_23 : decode cX0_init 23 = .ok (.aload_n 0, 1) := by decide +kernel
theorem dX0_init_24 : decode cX0_init 24 = .ok (.bipush (-2), 2) := by decide +kernel
theorem dX0_init_26 : decode cX0_init 26 = .ok (.putfield 22, 3) := by decide +kernel
theorem dX0_init_29 : decode cX0_init 29 = .ok (.return_, 1) := by decide +kernel
set_option maxRecDepth 100000 in
set_option maxHeartbeats 4000000 in
theorem c_X0_init {l : Launch} {D : q_D} (τ : q_T) (σ : q_V) (a0 : Nat) (hI : q_I τ σ) (tA0 : τ a0 = some (0, 0)) : q_C l D yX0_init cX0_init 1 none 1 20 1 64 τ σ [.ref a0] q_ev (fun _ τ1 σ1 => (∀ (b : Nat) (x : Nat × Nat), b ≠ a0 → τ b = some x → ∀ i : Nat, fx_N σ1 b i = fx_N σ b i) ∧ q_X1 0 a0 τ σ τ1 σ1) := by
  refine q_met rfl (Nat.le_of_ble_eq_true rfl) (fun X hG hE hnm => ?_)
  show q_O X 0 0 τ σ 0 [(0, .ref a0)] []
  refine q_aload_n (pc := 0) hG dX0_init_0 0 rfl ?_
  refine q_oin (pc := 1) hG w189 w22 w23 dX0_init_1 ⟨by decide, by decide⟩ (by decide) ?_
  refine q_aload_n (pc := 4) hG dX0_init_4 0 rfl ?_
  refine q_bipush (pc := 5) hG dX0_init_5 kb_64 ?_
  refine q_newA (pc := 7) (k := 211) (N := 64) (aty := .boolean) hG w155 dX0_init_7 ⟨by decide, by decide, rfl⟩ tl_64 (by decide) ⟨by decide, by decide⟩ (fun h7 n7 => ?_)
  obtain ⟨τ7, et7⟩ : ∃ t : q_T, t = q_tu τ h7 (211, 64) := ⟨_, rfl⟩
  obtain ⟨σ7, es7⟩ : ∃ t : q_V, t = q_vu σ h7 (fun _ => defaultValue (newarray.typeOf .boolean)) := ⟨_, rfl⟩
  rw [← et7, ← es7]
  have x7 : q_ex τ σ τ7 σ7 := by rw [et7, es7]; exact q_ex.mk n7 (Or.inl (by decide))
  have T7 : τ7 h7 = some (211, 64) := by rw [et7]; exact q_tu_new
  have z7 : σ7 h7 = (fun _ => defaultValue (newarray.typeOf .boolean)) := by rw [es7]; exact q_vu_new
  have I7 : q_I τ7 σ7 := by rw [et7, es7]; exact q_I.mk hI n7 (fun j _ => (show q_v _ _ (.int 0) from q_vi (ai_211.2.2 j) rl_0 (by decide)))
  have A7 := x7.1 a0 _ tA0
  have F7 : σ7 a0 = σ a0 := A7.2.trans rfl
  show q_O X 1 64 τ7 σ7 9 [(0, .ref a0)] [.ref h7, .ref a0]
  refine q_putF (pc := 9) hG hnm fl_X0_9 (fun r hr => by cases hr; rfl) dX0_init_9 A7.1 rfl rfl ?_
  obtain ⟨σ9, es9⟩ : ∃ t : q_V, t = q_up σ7 a0 0 (.ref h7) := ⟨_, rfl⟩
  rw [← es9]
  have I9 : q_I τ7 σ9 := by rw [es9]; exact I7.put A7.1 (fun hj => absurd (show 0 < 0 from hj) (Nat.not_lt_zero _))
  have F9 : σ9 a0 = updV (σ a0) 0 (.ref h7) := by rw [es9, q_upF, F7]
  have x9 : ∀ b, b ≠ a0 → σ9 b = σ7 b := by rw [es9]; exact fun b hb => q_up_ne hb
  show q_O X 1 64 τ7 σ9 12 [(0, .ref a0)] []
  refine q_aload_n (pc := 12) hG dX0_init_12 0 rfl ?_
  refine q_iconst (pc := 13) hG dX0_init_13 ki_0 ?_
  refine q_putV (pc := 14) hG fl_X0_15 dX0_init_14 A7.1 rfl rfl ?_
  obtain ⟨σ14, es14⟩ : ∃ t : q_V, t = q_up σ9 a0 1 (.int 0) := ⟨_, rfl⟩
  rw [← es14]
  have I14 : q_I τ7 σ14 := by rw [es14]; exact I9.put A7.1 (fun hj => absurd (show 1 < 0 from hj) (Nat.not_lt_zero _))
  have F14 : σ14 a0 = updV (updV (σ a0) 0 (.ref h7)) 1 (.int 0) := by rw [es14, q_upF, F9]
  have x14 : ∀ b, b ≠ a0 → σ14 b = σ9 b := by rw [es14]; exact fun b hb => q_up_ne hb
  show q_O X 1 64 τ7 σ14 17 [(0, .ref a0)] []
  refine q_aload_n (pc := 17) hG dX0_init_17 0 rfl ?_
  refine q_bipush (pc := 18) hG dX0_init_18 kb_m2 ?_
  refine q_putV (pc := 20) hG fl_X0_19 dX0_init_20 A7.1 rfl rfl ?_
  obtain ⟨σ20, es20⟩ : ∃ t : q_V, t = q_up σ14 a0 2 (.int (-2)) := ⟨_, rfl⟩
  rw [← es20]
  have I20 : q_I τ7 σ20 := by rw [es20]; exact I14.put A7.1 (fun hj => absurd (show 2 < 0 from hj) (Nat.not_lt_zero _))
  have F20 : σ20 a0 = updV (updV (updV (σ a0) 0 (.ref h7)) 1 (.int 0)) 2 (.int (-2)) := by rw [es20, q_upF, F14]
  have x20 : ∀ b, b ≠ a0 → σ20 b = σ14 b := by rw [es20]; exact fun b hb => q_up_ne hb
  show q_O X 1 64 τ7 σ20 23 [(0, .ref a0)] []
  refine q_aload_n (pc := 23) hG dX0_init_23 0 rfl ?_
  refine q_bipush (pc := 24) hG dX0_init_24 kb_m2 ?_
  refine q_putV (pc := 26) hG fl_X0_22 dX0_init_26 A7.1 rfl rfl ?_
  obtain ⟨σ26, es26⟩ : ∃ t : q_V, t = q_up σ20 a0 3 (.int (-2)) := ⟨_, rfl⟩
  rw [← es26]
  have I26 : q_I τ7 σ26 := by rw [es26]; exact I20.put A7.1 (fun hj => absurd (show 3 < 0 from hj) (Nat.not_lt_zero _))
  have F26 : σ26 a0 = updV (updV (updV (updV (σ a0) 0 (.ref h7)) 1 (.int 0)) 2 (.int (-2))) 3 (.int (-2)) := by rw [es26, q_upF, F20]
  have x26 : ∀ b, b ≠ a0 → σ26 b = σ20 b := by rw [es26]; exact fun b hb => q_up_ne hb
  show q_O X 1 64 τ7 σ26 29 [(0, .ref a0)] []
  have FR : ∀ (b : Nat) (x : Nat × Nat), b ≠ a0 → τ b = some x → τ7 b = some x ∧ (x = (9, 0) ∨ x = (4, 0) ∨ x = (118, 64) ∨ x = (4, 1) ∨ x = (3, 1) → σ26 b = σ b) ∧ (x = (6, 1) → ∀ j, j < 4 → σ26 b j = σ b j) := by
    intro b x ba hb
    obtain ⟨y7, v7⟩ := x7.1 b x hb
    have w7 : b ≠ h7 := fun e => by rw [e, n7] at hb; cases hb
    refine ⟨y7, fun hx => ?_, fun hx => ?_⟩
    · skip
      have u0 : σ b = σ b := rfl
      have u7 := v7.trans u0
      have u9 := (x9 b ba).trans u7
      have u14 := (x14 b ba).trans u9
      have u20 := (x20 b ba).trans u14
      have u26 := (x26 b ba).trans u20
      exact u26
    · intro j hj
      have u0 : σ b j = σ b j := rfl
      have u7 := (congrFun v7 j).trans u0
      have u9 := (congrFun (x9 b ba) j).trans u7
      have u14 := (congrFun (x14 b ba) j).trans u9
      have u20 := (congrFun (x20 b ba) j).trans u14
      have u26 := (congrFun (x26 b ba) j).trans u20
      exact u26
  have EX : ∀ (b : Nat) (x : Nat × Nat), b ≠ a0 → τ b = some x → ∀ i : Nat, fx_N σ26 b i = fx_N σ b i := by
    intro b x ba hb i
    have e0 : fx_N σ b i = fx_N σ b i := rfl
    obtain ⟨y7, v7⟩ := x7.1 b x hb
    have w7 : b ≠ h7 := fun e => by rw [e, n7] at hb; cases hb
    have e7 := (congrArg fx_num (congrFun v7 i)).trans e0
    have e9 := (congrArg fx_num (congrFun (x9 b ba) i)).trans e7
    have e14 := (congrArg fx_num (congrFun (x14 b ba) i)).trans e9
    have e20 := (congrArg fx_num (congrFun (x20 b ba) i)).trans e14
    have e26 := (congrArg fx_num (congrFun (x26 b ba) i)).trans e20
    exact e26
  have N3 : ∀ b n : Nat, τ7 b = some (103, n) → τ b = some (103, n) := by
    intro b n hb
    have k7 := x7.2 b n hb
    exact k7
  have HF : ∀ j, j < q_nf 0 → q_v (q_tu τ7 a0 (0, 1)) (q_f 0 j) (σ26 a0 j) := by
    rw [F26]
    intro j hj
    rcases j with _ | j
    · show q_v _ (q_f 0 0) (.ref h7); exact q_vr (k := 211) (n := 64) ff_0_0 ((q_tu_ne (q_neT T7 A7.1 (by decide))).trans T7) (by decide)
    rcases j with _ | j
    · show q_v _ (q_f 0 1) (.int 0); exact q_vi ff_0_1 rl_0 (by decide)
    rcases j with _ | j
    · show q_v _ (q_f 0 2) (.int (-2)); exact q_vi ff_0_2 rl_m2 (by decide)
    rcases j with _ | j
    · show q_v _ (q_f 0 3) (.int (-2)); exact q_vi ff_0_3 rl_m2 (by decide)
    exact absurd hj (by show ¬ _ < 4; omega)
  refine q_retype A7.1 (by decide) ?_
  exact q_vret hG hE dX0_init_29 ⟨EX, ⟨I26.made (by decide) A7.1 HF, q_tu_new, fun b x hb h => by rw [q_tu_ne hb]; exact FR b x hb h, fun b n h => Classical.byCases (fun e : b = a0 => by rw [e, q_tu_new] at h; cases h) (fun e => by rw [q_tu_ne e] at h; exact N3 b n h)⟩⟩
theorem dX1_init_0 : decode cX1_init 0 = .ok (.aload_n 0, 1) := by decide +kernel
theorem dX1_init_1 : decode cX1_init 1 = .ok (.invokespecial 3, 3) := by decide +kernel
theorem dX1_init_4 : decode cX1_init 4 = .ok (.aload_n 0, 1) := by decide +kernel
theorem dX1_init_5 : decode cX1_init 5 = .ok (.bipush 61, 2) := by decide +kernel
theorem dX1_init_7 : decode cX1_init 7 = .ok (.newarray .int, 2) := by decide +kernel
theorem dX1_init_9 : decode cX1_init 9 = .ok (.putfield 11, 3) := by decide +kernel
theorem dX1_init_12 : decode cX1_init 12 = .ok (.aload_n 0, 1) := by decide +kernel
theorem dX1_init_13 : decode cX1_init 13 = .ok (.bipush 61, 2) := by decide +kernel
theorem dX1_init_15 : decode cX1_init 15 = .ok (.newarray .int, 2) := by decide +kernel
theorem dX1_init_17 : decode cX1_init 17 = .ok (.putfield 15, 3) := by decide +kernel
theorem dX1_init_20 : decode cX1_init 20 = .ok (.aload_n 0, 1) := by decide +kernel
theorem dX1_init_21 : decode cX1_init 21 = .ok (.bipush 64, 2) := by decide +kernel
theorem dX1_init_23 : decode cX1_init 23 = .ok (.newarray .int, 2) := by decide +kernel
theorem dX1_init_25 : decode cX1_init 25 = .ok (.putfield 18, 3) := by decide +kernel
theorem dX1_init_28 : decode cX1_init 28 = .ok (.aload_n 0, 1) := by decide +kernel
theorem dX1_init_29 : decode cX1_init 29 = .ok (.bipush 64, 2) := by decide +kernel
theorem dX1_init_31 : decode cX1_init 31 = .ok (.newarray .int, 2) := by decide +kernel
theorem dX1_init_33 : decode cX1_init 33 = .ok (.putfield 21, 3) := by decide +kernel
theorem dX1_init_36 : decode cX1_init 36 = .ok (.aload_n 0, 1) := by decide +kernel
theorem dX1_init_37 : decode cX1_init 37 = .ok (.bipush 64, 2) := by decide +kernel
theorem dX1_init_39 : decode cX1_init 39 = .ok (.newarray .int, 2) := by decide +kernel
theorem dX1_init_41 : decode cX1_init 41 = .ok (.putfield 24, 3) := by decide +kernel
theorem dX1_init_44 : decode cX1_init 44 = .ok (.return_, 1) := by decide +kernel
set_option maxRecDepth 100000 in
set_option maxHeartbeats 4000000 in
theorem c_X1_init {l : Launch} {D : q_D} (τ : q_T) (σ : q_V) (a0 : Nat) (hI : q_I τ σ) (tA0 : τ a0 = some (1, 0)) : q_C l D yX1_init cX1_init 1 none 1 20 5 314 τ σ [.ref a0] q_ev (fun _ τ1 σ1 => (∀ (b : Nat) (x : Nat × Nat), b ≠ a0 → τ b = some x → ∀ i : Nat, fx_N σ1 b i = fx_N σ b i) ∧ q_X1 1 a0 τ σ τ1 σ1) := by
  refine q_met rfl (Nat.le_of_ble_eq_true rfl) (fun X hG hE hnm => ?_)
  show q_O X 0 0 τ σ 0 [(0, .ref a0)] []
  refine q_aload_n (pc := 0) hG dX1_init_0 0 rfl ?_
  refine q_oin (pc := 1) hG w177 w22 w23 dX1_init_1 ⟨by decide, by decide⟩ (by decide) ?_
  refine q_aload_n (pc := 4) hG dX1_init_4 0 rfl ?_
  refine q_bipush (pc := 5) hG dX1_init_5 kb_61 ?_
  refine q_newA (pc := 7) (k := 132) (N := 61) (aty := .int) hG w36 dX1_init_7 ⟨by decide, by decide, rfl⟩ tl_61 (by decide) ⟨by decide, by decide⟩ (fun h7 n7 => ?_)
  obtain ⟨τ7, et7⟩ : ∃ t : q_T, t = q_tu τ h7 (132, 61) := ⟨_, rfl⟩
  obtain ⟨σ7, es7⟩ : ∃ t : q_V, t = q_vu σ h7 (fun _ => defaultValue (newarray.typeOf .int)) := ⟨_, rfl⟩
  rw [← et7, ← es7]
  have x7 : q_ex τ σ τ7 σ7 := by rw [et7, es7]; exact q_ex.mk n7 (Or.inl (by decide))
  have T7 : τ7 h7 = some (132, 61) := by rw [et7]; exact q_tu_new
  have z7 : σ7 h7 = (fun _ => defaultValue (newarray.typeOf .int)) := by rw [es7]; exact q_vu_new
  have I7 : q_I τ7 σ7 := by rw [et7, es7]; exact q_I.mk hI n7 (fun j _ => (show q_v _ _ (.int 0) from q_vi (ai_132.2.2 j) rl_0 (by decide)))
  have A7 := x7.1 a0 _ tA0
  have F7 : σ7 a0 = σ a0 := A7.2.trans rfl
  show q_O X 1 61 τ7 σ7 9 [(0, .ref a0)] [.ref h7, .ref a0]
  refine q_putF (pc := 9) hG hnm fl_X1_11 (fun r hr => by cases hr; rfl) dX1_init_9 A7.1 rfl rfl ?_
  obtain ⟨σ9, es9⟩ : ∃ t : q_V, t = q_up σ7 a0 0 (.ref h7) := ⟨_, rfl⟩
  rw [← es9]
  have I9 : q_I τ7 σ9 := by rw [es9]; exact I7.put A7.1 (fun hj => absurd (show 0 < 0 from hj) (Nat.not_lt_zero _))
  have F9 : σ9 a0 = updV (σ a0) 0 (.ref h7) := by rw [es9, q_upF, F7]
  have x9 : ∀ b, b ≠ a0 → σ9 b = σ7 b := by rw [es9]; exact fun b hb => q_up_ne hb
  show q_O X 1 61 τ7 σ9 12 [(0, .ref a0)] []
  refine q_aload_n (pc := 12) hG dX1_init_12 0 rfl ?_
  refine q_bipush (pc := 13) hG dX1_init_13 kb_61 ?_
  refine q_newA (pc := 15) (k := 133) (N := 61) (aty := .int) hG w36 dX1_init_15 ⟨by decide, by decide, rfl⟩ tl_61 (by decide) ⟨by decide, by decide⟩ (fun h15 n15 => ?_)
  obtain ⟨τ15, et15⟩ : ∃ t : q_T, t = q_tu τ7 h15 (133, 61) := ⟨_, rfl⟩
  obtain ⟨σ15, es15⟩ : ∃ t : q_V, t = q_vu σ9 h15 (fun _ => defaultValue (newarray.typeOf .int)) := ⟨_, rfl⟩
  rw [← et15, ← es15]
  have x15 : q_ex τ7 σ9 τ15 σ15 := by rw [et15, es15]; exact q_ex.mk n15 (Or.inl (by decide))
  have T15 : τ15 h15 = some (133, 61) := by rw [et15]; exact q_tu_new
  have z15 : σ15 h15 = (fun _ => defaultValue (newarray.typeOf .int)) := by rw [es15]; exact q_vu_new
  have I15 : q_I τ15 σ15 := by rw [et15, es15]; exact q_I.mk I9 n15 (fun j _ => (show q_v _ _ (.int 0) from q_vi (ai_133.2.2 j) rl_0 (by decide)))
  have A15 := x15.1 a0 _ A7.1
  have F15 : σ15 a0 = updV (σ a0) 0 (.ref h7) := A15.2.trans F9
  show q_O X 2 122 τ15 σ15 17 [(0, .ref a0)] [.ref h15, .ref a0]
  refine q_putF (pc := 17) hG hnm fl_X1_15 (fun r hr => by cases hr; rfl) dX1_init_17 A15.1 rfl rfl ?_
  obtain ⟨σ17, es17⟩ : ∃ t : q_V, t = q_up σ15 a0 1 (.ref h15) := ⟨_, rfl⟩
  rw [← es17]
  have I17 : q_I τ15 σ17 := by rw [es17]; exact I15.put A15.1 (fun hj => absurd (show 1 < 0 from hj) (Nat.not_lt_zero _))
  have F17 : σ17 a0 = updV (updV (σ a0) 0 (.ref h7)) 1 (.ref h15) := by rw [es17, q_upF, F15]
  have x17 : ∀ b, b ≠ a0 → σ17 b = σ15 b := by rw [es17]; exact fun b hb => q_up_ne hb
  show q_O X 2 122 τ15 σ17 20 [(0, .ref a0)] []
  refine q_aload_n (pc := 20) hG dX1_init_20 0 rfl ?_
  refine q_bipush (pc := 21) hG dX1_init_21 kb_64 ?_
  refine q_newA (pc := 23) (k := 134) (N := 64) (aty := .int) hG w36 dX1_init_23 ⟨by decide, by decide, rfl⟩ tl_64 (by decide) ⟨by decide, by decide⟩ (fun h23 n23 => ?_)
  obtain ⟨τ23, et23⟩ : ∃ t : q_T, t = q_tu τ15 h23 (134, 64) := ⟨_, rfl⟩
  obtain ⟨σ23, es23⟩ : ∃ t : q_V, t = q_vu σ17 h23 (fun _ => defaultValue (newarray.typeOf .int)) := ⟨_, rfl⟩
  rw [← et23, ← es23]
  have x23 : q_ex τ15 σ17 τ23 σ23 := by rw [et23, es23]; exact q_ex.mk n23 (Or.inl (by decide))
  have T23 : τ23 h23 = some (134, 64) := by rw [et23]; exact q_tu_new
  have z23 : σ23 h23 = (fun _ => defaultValue (newarray.typeOf .int)) := by rw [es23]; exact q_vu_new
  have I23 : q_I τ23 σ23 := by rw [et23, es23]; exact q_I.mk I17 n23 (fun j _ => (show q_v _ _ (.int 0) from q_vi (ai_134.2.2 j) rl_0 (by decide)))
  have A23 := x23.1 a0 _ A15.1
  have F23 : σ23 a0 = updV (updV (σ a0) 0 (.ref h7)) 1 (.ref h15) := A23.2.trans F17
  show q_O X 3 186 τ23 σ23 25 [(0, .ref a0)] [.ref h23, .ref a0]
  refine q_putF (pc := 25) hG hnm fl_X1_18 (fun r hr => by cases hr; rfl) dX1_init_25 A23.1 rfl rfl ?_
  obtain ⟨σ25, es25⟩ : ∃ t : q_V, t = q_up σ23 a0 2 (.ref h23) := ⟨_, rfl⟩
  rw [← es25]
  have I25 : q_I τ23 σ25 := by rw [es25]; exact I23.put A23.1 (fun hj => absurd (show 2 < 0 from hj) (Nat.not_lt_zero _))
  have F25 : σ25 a0 = updV (updV (updV (σ a0) 0 (.ref h7)) 1 (.ref h15)) 2 (.ref h23) := by rw [es25, q_upF, F23]
  have x25 : ∀ b, b ≠ a0 → σ25 b = σ23 b := by rw [es25]; exact fun b hb => q_up_ne hb
  show q_O X 3 186 τ23 σ25 28 [(0, .ref a0)] []
  refine q_aload_n (pc := 28) hG dX1_init_28 0 rfl ?_
  refine q_bipush (pc := 29) hG dX1_init_29 kb_64 ?_
  refine q_newA (pc := 31) (k := 135) (N := 64) (aty := .int) hG w36 dX1_init_31 ⟨by decide, by decide, rfl⟩ tl_64 (by decide) ⟨by decide, by decide⟩ (fun h31 n31 => ?_)
  obtain ⟨τ31, et31⟩ : ∃ t : q_T, t = q_tu τ23 h31 (135, 64) := ⟨_, rfl⟩
  obtain ⟨σ31, es31⟩ : ∃ t : q_V, t = q_vu σ25 h31 (fun _ => defaultValue (newarray.typeOf .int)) := ⟨_, rfl⟩
  rw [← et31, ← es31]
  have x31 : q_ex τ23 σ25 τ31 σ31 := by rw [et31, es31]; exact q_ex.mk n31 (Or.inl (by decide))
  have T31 : τ31 h31 = some (135, 64) := by rw [et31]; exact q_tu_new
  have z31 : σ31 h31 = (fun _ => defaultValue (newarray.typeOf .int)) := by rw [es31]; exact q_vu_new
  have I31 : q_I τ31 σ31 := by rw [et31, es31]; exact q_I.mk I25 n31 (fun j _ => (show q_v _ _ (.int 0) from q_vi (ai_135.2.2 j) rl_0 (by decide)))
  have A31 := x31.1 a0 _ A23.1
  have F31 : σ31 a0 = updV (updV (updV (σ a0) 0 (.ref h7)) 1 (.ref h15)) 2 (.ref h23) := A31.2.trans F25
  show q_O X 4 250 τ31 σ31 33 [(0, .ref a0)] [.ref h31, .ref a0]
  refine q_putF (pc := 33) hG hnm fl_X1_21 (fun r hr => by cases hr; rfl) dX1_init_33 A31.1 rfl rfl ?_
  obtain ⟨σ33, es33⟩ : ∃ t : q_V, t = q_up σ31 a0 3 (.ref h31) := ⟨_, rfl⟩
  rw [← es33]
  have I33 : q_I τ31 σ33 := by rw [es33]; exact I31.put A31.1 (fun hj => absurd (show 3 < 0 from hj) (Nat.not_lt_zero _))
  have F33 : σ33 a0 = updV (updV (updV (updV (σ a0) 0 (.ref h7)) 1 (.ref h15)) 2 (.ref h23)) 3 (.ref h31) := by rw [es33, q_upF, F31]
  have x33 : ∀ b, b ≠ a0 → σ33 b = σ31 b := by rw [es33]; exact fun b hb => q_up_ne hb
  show q_O X 4 250 τ31 σ33 36 [(0, .ref a0)] []
  refine q_aload_n (pc := 36) hG dX1_init_36 0 rfl ?_
  refine q_bipush (pc := 37) hG dX1_init_37 kb_64 ?_
  refine q_newA (pc := 39) (k := 136) (N := 64) (aty := .int) hG w36 dX1_init_39 ⟨by decide, by decide, rfl⟩ tl_64 (by decide) ⟨by decide, by decide⟩ (fun h39 n39 => ?_)
  obtain ⟨τ39, et39⟩ : ∃ t : q_T, t = q_tu τ31 h39 (136, 64) := ⟨_, rfl⟩
  obtain ⟨σ39, es39⟩ : ∃ t : q_V, t = q_vu σ33 h39 (fun _ => defaultValue (newarray.typeOf .int)) := ⟨_, rfl⟩
  rw [← et39, ← es39]
  have x39 : q_ex τ31 σ33 τ39 σ39 := by rw [et39, es39]; exact q_ex.mk n39 (Or.inl (by decide))
  have T39 : τ39 h39 = some (136, 64) := by rw [et39]; exact q_tu_new
  have z39 : σ39 h39 = (fun _ => defaultValue (newarray.typeOf .int)) := by rw [es39]; exact q_vu_new
  have I39 : q_I τ39 σ39 := by rw [et39, es39]; exact q_I.mk I33 n39 (fun j _ => (show q_v _ _ (.int 0) from q_vi (ai_136.2.2 j) rl_0 (by decide)))
  have A39 := x39.1 a0 _ A31.1
  have F39 : σ39 a0 = updV (updV (updV (updV (σ a0) 0 (.ref h7)) 1 (.ref h15)) 2 (.ref h23)) 3 (.ref h31) := A39.2.trans F33
  show q_O X 5 314 τ39 σ39 41 [(0, .ref a0)] [.ref h39, .ref a0]
  refine q_putF (pc := 41) hG hnm fl_X1_24 (fun r hr => by cases hr; rfl) dX1_init_41 A39.1 rfl rfl ?_
  obtain ⟨σ41, es41⟩ : ∃ t : q_V, t = q_up σ39 a0 4 (.ref h39) := ⟨_, rfl⟩
  rw [← es41]
  have I41 : q_I τ39 σ41 := by rw [es41]; exact I39.put A39.1 (fun hj => absurd (show 4 < 0 from hj) (Nat.not_lt_zero _))
  have F41 : σ41 a0 = updV (updV (updV (updV (updV (σ a0) 0 (.ref h7)) 1 (.ref h15)) 2 (.ref h23)) 3 (.ref h31)) 4 (.ref h39) := by rw [es41, q_upF, F39]
  have x41 : ∀ b, b ≠ a0 → σ41 b = σ39 b := by rw [es41]; exact fun b hb => q_up_ne hb
  show q_O X 5 314 τ39 σ41 44 [(0, .ref a0)] []
  have FR : ∀ (b : Nat) (x : Nat × Nat), b ≠ a0 → τ b = some x → τ39 b = some x ∧ (x = (9, 0) ∨ x = (4, 0) ∨ x = (118, 64) ∨ x = (4, 1) ∨ x = (3, 1) → σ41 b = σ b) ∧ (x = (6, 1) → ∀ j, j < 4 → σ41 b j = σ b j) := by
    intro b x ba hb
    obtain ⟨y7, v7⟩ := x7.1 b x hb
    have w7 : b ≠ h7 := fun e => by rw [e, n7] at hb; cases hb
    obtain ⟨y15, v15⟩ := x15.1 b x y7
    have w15 : b ≠ h15 := fun e => by rw [e, n15] at y7; cases y7
    obtain ⟨y23, v23⟩ := x23.1 b x y15
    have w23 : b ≠ h23 := fun e => by rw [e, n23] at y15; cases y15
    obtain ⟨y31, v31⟩ := x31.1 b x y23
    have w31 : b ≠ h31 := fun e => by rw [e, n31] at y23; cases y23
    obtain ⟨y39, v39⟩ := x39.1 b x y31
    have w39 : b ≠ h39 := fun e => by rw [e, n39] at y31; cases y31
    refine ⟨y39, fun hx => ?_, fun hx => ?_⟩
    · skip
      have u0 : σ b = σ b := rfl
      have u7 := v7.trans u0
      have u9 := (x9 b ba).trans u7
      have u15 := v15.trans u9
      have u17 := (x17 b ba).trans u15
      have u23 := v23.trans u17
      have u25 := (x25 b ba).trans u23
      have u31 := v31.trans u25
      have u33 := (x33 b ba).trans u31
      have u39 := v39.trans u33
      have u41 := (x41 b ba).trans u39
      exact u41
    · intro j hj
      have u0 : σ b j = σ b j := rfl
      have u7 := (congrFun v7 j).trans u0
      have u9 := (congrFun (x9 b ba) j).trans u7
      have u15 := (congrFun v15 j).trans u9
      have u17 := (congrFun (x17 b ba) j).trans u15
      have u23 := (congrFun v23 j).trans u17
      have u25 := (congrFun (x25 b ba) j).trans u23
      have u31 := (congrFun v31 j).trans u25
      have u33 := (congrFun (x33 b ba) j).trans u31
      have u39 := (congrFun v39 j).trans u33
      have u41 := (congrFun (x41 b ba) j).trans u39
      exact u41
  have EX : ∀ (b : Nat) (x : Nat × Nat), b ≠ a0 → τ b = some x → ∀ i : Nat, fx_N σ41 b i = fx_N σ b i := by
    intro b x ba hb i
    have e0 : fx_N σ b i = fx_N σ b i := rfl
    obtain ⟨y7, v7⟩ := x7.1 b x hb
    have w7 : b ≠ h7 := fun e => by rw [e, n7] at hb; cases hb
    have e7 := (congrArg fx_num (congrFun v7 i)).trans e0
    have e9 := (congrArg fx_num (congrFun (x9 b ba) i)).trans e7
    obtain ⟨y15, v15⟩ := x15.1 b x y7
    have w15 : b ≠ h15 := fun e => by rw [e, n15] at y7; cases y7
    have e15 := (congrArg fx_num (congrFun v15 i)).trans e9
    have e17 := (congrArg fx_num (congrFun (x17 b ba) i)).trans e15
    obtain ⟨y23, v23⟩ := x23.1 b x y15
    have w23 : b ≠ h23 := fun e => by rw [e, n23] at y15; cases y15
    have e23 := (congrArg fx_num (congrFun v23 i)).trans e17
    have e25 := (congrArg fx_num (congrFun (x25 b ba) i)).trans e23
    obtain ⟨y31, v31⟩ := x31.1 b x y23
    have w31 : b ≠ h31 := fun e => by rw [e, n31] at y23; cases y23
    have e31 := (congrArg fx_num (congrFun v31 i)).trans e25
    have e33 := (congrArg fx_num (congrFun (x33 b ba) i)).trans e31
    obtain ⟨y39, v39⟩ := x39.1 b x y31
    have w39 : b ≠ h39 := fun e => by rw [e, n39] at y31; cases y31
    have e39 := (congrArg fx_num (congrFun v39 i)).trans e33
    have e41 := (congrArg fx_num (congrFun (x41 b ba) i)).trans e39
    exact e41
  have N3 : ∀ b n : Nat, τ39 b = some (103, n) → τ b = some (103, n) := by
    intro b n hb
    have k39 := x39.2 b n hb
    have k31 := x31.2 b n k39
    have k23 := x23.2 b n k31
    have k15 := x15.2 b n k23
    have k7 := x7.2 b n k15
    exact k7
  have HF : ∀ j, j < q_nf 1 → q_v (q_tu τ39 a0 (1, 1)) (q_f 1 j) (σ41 a0 j) := by
    rw [F41]
    intro j hj
    rcases j with _ | j
    · show q_v _ (q_f 1 0) (.ref h7); exact q_vr (k := 132) (n := 61) ff_1_0 ((q_tu_ne (q_neT (x39.1 h7 _ (x31.1 h7 _ (x23.1 h7 _ (x15.1 h7 _ T7).1).1).1).1 A39.1 (by decide))).trans (x39.1 h7 _ (x31.1 h7 _ (x23.1 h7 _ (x15.1 h7 _ T7).1).1).1).1) (by decide)
    rcases j with _ | j
    · show q_v _ (q_f 1 1) (.ref h15); exact q_vr (k := 133) (n := 61) ff_1_1 ((q_tu_ne (q_neT (x39.1 h15 _ (x31.1 h15 _ (x23.1 h15 _ T15).1).1).1 A39.1 (by decide))).trans (x39.1 h15 _ (x31.1 h15 _ (x23.1 h15 _ T15).1).1).1) (by decide)
    rcases j with _ | j
    · show q_v _ (q_f 1 2) (.ref h23); exact q_vr (k := 134) (n := 64) ff_1_2 ((q_tu_ne (q_neT (x39.1 h23 _ (x31.1 h23 _ T23).1).1 A39.1 (by decide))).trans (x39.1 h23 _ (x31.1 h23 _ T23).1).1) (by decide)
    rcases j with _ | j
    · show q_v _ (q_f 1 3) (.ref h31); exact q_vr (k := 135) (n := 64) ff_1_3 ((q_tu_ne (q_neT (x39.1 h31 _ T31).1 A39.1 (by decide))).trans (x39.1 h31 _ T31).1) (by decide)
    rcases j with _ | j
    · show q_v _ (q_f 1 4) (.ref h39); exact q_vr (k := 136) (n := 64) ff_1_4 ((q_tu_ne (q_neT T39 A39.1 (by decide))).trans T39) (by decide)
    exact absurd hj (by show ¬ _ < 5; omega)
  refine q_retype A39.1 (by decide) ?_
  exact q_vret hG hE dX1_init_44 ⟨EX, ⟨I41.made (by decide) A39.1 HF, q_tu_new, fun b x hb h => by rw [q_tu_ne hb]; exact FR b x hb h, fun b n h => Classical.byCases (fun e : b = a0 => by rw [e, q_tu_new] at h; cases h) (fun e => by rw [q_tu_ne e] at h; exact N3 b n h)⟩⟩
theorem dX2_init_0 : decode cX2_init 0 = .ok (.aload_n 0, 1) := by decide +kernel
theorem dX2_init_1 : decode cX2_init 1 = .ok (.invokespecial 3, 3) := by decide +kernel
theorem dX2_init_4 : decode cX2_init 4 = .ok (.aload_n 0, 1) := by decide +kernel
theorem dX2_init_5 : decode cX2_init 5 = .ok (.iconst 0, 1) := by decide +kernel
theorem dX2_init_6 : decode cX2_init 6 = .ok (.putfield 9, 3) := by decide +kernel
theorem dX2_init_9 : decode cX2_init 9 = .ok (.aload_n 0, 1) := by decide +kernel
theorem dX2_init_10 : decode cX2_init 10 = .ok (.bipush 20, 2) := by decide +kernel
theorem dX2_init_12 : decode cX2_init 12 = .ok (.newarray .int, 2) := by decide +kernel
theorem dX2_init_14 : decode cX2_init 14 = .ok (.putfield 15, 3) := by decide +kernel
theorem dX2_init_17 : decode cX2_init 17 = .ok (.aload_n 0, 1) := by decide +kernel
theorem dX2_init_18 : decode cX2_init 18 = .ok (.bipush 20, 2) := by decide +kernel
theorem dX2_init_20 : decode cX2_init 20 = .ok (.newarray .int, 2) := by decide +kernel
theorem dX2_init_22 : decode cX2_init 22 = .ok (.putfield 19, 3) := by decide +kernel
theorem dX2_init_25 : decode cX2_init 25 = .ok (.aload_n 0, 1) := by decide +kernel
theorem dX2_init_26 : decode cX2_init 26 = .ok (.iconst 2, 1) := by decide +kernel
theorem dX2_init_27 : decode cX2_init 27 = .ok (.newarray .int, 2) := by decide +kernel
theorem dX2_init_29 : decode cX2_init 29 = .ok (.putfield 22, 3) := by decide +kernel
theorem dX2_init_32 : decode cX2_init 32 = .ok (.return_, 1) := by decide +kernel
set_option maxRecDepth 100000 in
set_option maxHeartbeats 4000000 in
theorem c_X2_init {l : Launch} {D : q_D} (τ : q_T) (σ : q_V) (a0 : Nat) (hI : q_I τ σ) (tA0 : τ a0 = some (2, 0)) : q_C l D yX2_init cX2_init 1 none 1 20 3 42 τ σ [.ref a0] q_ev (fun _ τ1 σ1 => (∀ (b : Nat) (x : Nat × Nat), b ≠ a0 → τ b = some x → ∀ i : Nat, fx_N σ1 b i = fx_N σ b i) ∧ q_X1 2 a0 τ σ τ1 σ1) := by
  refine q_met rfl (Nat.le_of_ble_eq_true rfl) (fun X hG hE hnm => ?_)
  show q_O X 0 0 τ σ 0 [(0, .ref a0)] []
  refine q_aload_n (pc := 0) hG dX2_init_0 0 rfl ?_
  refine q_oin (pc := 1) hG w212 w22 w23 dX2_init_1 ⟨by decide, by decide⟩ (by decide) ?_
  refine q_aload_n (pc := 4) hG dX2_init_4 0 rfl ?_
  refine q_iconst (pc := 5) hG dX2_init_5 ki_0 ?_
  refine q_putV (pc := 6) hG fl_X2_9 dX2_init_6 tA0 rfl rfl ?_
  obtain ⟨σ6, es6⟩ : ∃ t : q_V, t = q_up σ a0 0 (.int 0) := ⟨_, rfl⟩
  rw [← es6]
  have I6 : q_I τ σ6 := by rw [es6]; exact hI.put tA0 (fun hj => absurd (show 0 < 0 from hj) (Nat.not_lt_zero _))
  have F6 : σ6 a0 = updV (σ a0) 0 (.int 0) := by rw [es6, q_upF]
  have x6 : ∀ b, b ≠ a0 → σ6 b = σ b := by rw [es6]; exact fun b hb => q_up_ne hb
  show q_O X 0 0 τ σ6 9 [(0, .ref a0)] []
  refine q_aload_n (pc := 9) hG dX2_init_9 0 rfl ?_
  refine q_bipush (pc := 10) hG dX2_init_10 kb_20 ?_
  refine q_newA (pc := 12) (k := 137) (N := 20) (aty := .int) hG w36 dX2_init_12 ⟨by decide, by decide, rfl⟩ tl_20 (by decide) ⟨by decide, by decide⟩ (fun h12 n12 => ?_)
  obtain ⟨τ12, et12⟩ : ∃ t : q_T, t = q_tu τ h12 (137, 20) := ⟨_, rfl⟩
  obtain ⟨σ12, es12⟩ : ∃ t : q_V, t = q_vu σ6 h12 (fun _ => defaultValue (newarray.typeOf .int)) := ⟨_, rfl⟩
  rw [← et12, ← es12]
  have x12 : q_ex τ σ6 τ12 σ12 := by rw [et12, es12]; exact q_ex.mk n12 (Or.inl (by decide))
  have T12 : τ12 h12 = some (137, 20) := by rw [et12]; exact q_tu_new
  have z12 : σ12 h12 = (fun _ => defaultValue (newarray.typeOf .int)) := by rw [es12]; exact q_vu_new
  have I12 : q_I τ12 σ12 := by rw [et12, es12]; exact q_I.mk I6 n12 (fun j _ => (show q_v _ _ (.int 0) from q_vi (ai_137.2.2 j) rl_0 (by decide)))
  have A12 := x12.1 a0 _ tA0
  have F12 : σ12 a0 = updV (σ a0) 0 (.int 0) := A12.2.trans F6
  show q_O X 1 20 τ12 σ12 14 [(0, .ref a0)] [.ref h12, .ref a0]
  refine q_putF (pc := 14) hG hnm fl_X2_15 (fun r hr => by cases hr; rfl) dX2_init_14 A12.1 rfl rfl ?_
  obtain ⟨σ14, es14⟩ : ∃ t : q_V, t = q_up σ12 a0 1 (.ref h12) := ⟨_, rfl⟩
  rw [← es14]
  have I14 : q_I τ12 σ14 := by rw [es14]; exact I12.put A12.1 (fun hj => absurd (show 1 < 0 from hj) (Nat.not_lt_zero _))
  have F14 : σ14 a0 = updV (updV (σ a0) 0 (.int 0)) 1 (.ref h12) := by rw [es14, q_upF, F12]
  have x14 : ∀ b, b ≠ a0 → σ14 b = σ12 b := by rw [es14]; exact fun b hb => q_up_ne hb
  show q_O X 1 20 τ12 σ14 17 [(0, .ref a0)] []
  refine q_aload_n (pc := 17) hG dX2_init_17 0 rfl ?_
  refine q_bipush (pc := 18) hG dX2_init_18 kb_20 ?_
  refine q_newA (pc := 20) (k := 138) (N := 20) (aty := .int) hG w36 dX2_init_20 ⟨by decide, by decide, rfl⟩ tl_20 (by decide) ⟨by decide, by decide⟩ (fun h20 n20 => ?_)
  obtain ⟨τ20, et20⟩ : ∃ t : q_T, t = q_tu τ12 h20 (138, 20) := ⟨_, rfl⟩
  obtain ⟨σ20, es20⟩ : ∃ t : q_V, t = q_vu σ14 h20 (fun _ => defaultValue (newarray.typeOf .int)) := ⟨_, rfl⟩
  rw [← et20, ← es20]
  have x20 : q_ex τ12 σ14 τ20 σ20 := by rw [et20, es20]; exact q_ex.mk n20 (Or.inl (by decide))
  have T20 : τ20 h20 = some (138, 20) := by rw [et20]; exact q_tu_new
  have z20 : σ20 h20 = (fun _ => defaultValue (newarray.typeOf .int)) := by rw [es20]; exact q_vu_new
  have I20 : q_I τ20 σ20 := by rw [et20, es20]; exact q_I.mk I14 n20 (fun j _ => (show q_v _ _ (.int 0) from q_vi (ai_138.2.2 j) rl_0 (by decide)))
  have A20 := x20.1 a0 _ A12.1
  have F20 : σ20 a0 = updV (updV (σ a0) 0 (.int 0)) 1 (.ref h12) := A20.2.trans F14
  show q_O X 2 40 τ20 σ20 22 [(0, .ref a0)] [.ref h20, .ref a0]
  refine q_putF (pc := 22) hG hnm fl_X2_19 (fun r hr => by cases hr; rfl) dX2_init_22 A20.1 rfl rfl ?_
  obtain ⟨σ22, es22⟩ : ∃ t : q_V, t = q_up σ20 a0 2 (.ref h20) := ⟨_, rfl⟩
  rw [← es22]
  have I22 : q_I τ20 σ22 := by rw [es22]; exact I20.put A20.1 (fun hj => absurd (show 2 < 0 from hj) (Nat.not_lt_zero _))
  have F22 : σ22 a0 = updV (updV (updV (σ a0) 0 (.int 0)) 1 (.ref h12)) 2 (.ref h20) := by rw [es22, q_upF, F20]
  have x22 : ∀ b, b ≠ a0 → σ22 b = σ20 b := by rw [es22]; exact fun b hb => q_up_ne hb
  show q_O X 2 40 τ20 σ22 25 [(0, .ref a0)] []
  refine q_aload_n (pc := 25) hG dX2_init_25 0 rfl ?_
  refine q_iconst (pc := 26) hG dX2_init_26 ki_2 ?_
  refine q_newA (pc := 27) (k := 139) (N := 2) (aty := .int) hG w36 dX2_init_27 ⟨by decide, by decide, rfl⟩ tl_2 (by decide) ⟨by decide, by decide⟩ (fun h27 n27 => ?_)
  obtain ⟨τ27, et27⟩ : ∃ t : q_T, t = q_tu τ20 h27 (139, 2) := ⟨_, rfl⟩
  obtain ⟨σ27, es27⟩ : ∃ t : q_V, t = q_vu σ22 h27 (fun _ => defaultValue (newarray.typeOf .int)) := ⟨_, rfl⟩
  rw [← et27, ← es27]
  have x27 : q_ex τ20 σ22 τ27 σ27 := by rw [et27, es27]; exact q_ex.mk n27 (Or.inl (by decide))
  have T27 : τ27 h27 = some (139, 2) := by rw [et27]; exact q_tu_new
  have z27 : σ27 h27 = (fun _ => defaultValue (newarray.typeOf .int)) := by rw [es27]; exact q_vu_new
  have I27 : q_I τ27 σ27 := by rw [et27, es27]; exact q_I.mk I22 n27 (fun j _ => (show q_v _ _ (.int 0) from q_vi (ai_139.2.2 j) rl_0 (by decide)))
  have A27 := x27.1 a0 _ A20.1
  have F27 : σ27 a0 = updV (updV (updV (σ a0) 0 (.int 0)) 1 (.ref h12)) 2 (.ref h20) := A27.2.trans F22
  show q_O X 3 42 τ27 σ27 29 [(0, .ref a0)] [.ref h27, .ref a0]
  refine q_putF (pc := 29) hG hnm fl_X2_22 (fun r hr => by cases hr; rfl) dX2_init_29 A27.1 rfl rfl ?_
  obtain ⟨σ29, es29⟩ : ∃ t : q_V, t = q_up σ27 a0 3 (.ref h27) := ⟨_, rfl⟩
  rw [← es29]
  have I29 : q_I τ27 σ29 := by rw [es29]; exact I27.put A27.1 (fun hj => absurd (show 3 < 0 from hj) (Nat.not_lt_zero _))
  have F29 : σ29 a0 = updV (updV (updV (updV (σ a0) 0 (.int 0)) 1 (.ref h12)) 2 (.ref h20)) 3 (.ref h27) := by rw [es29, q_upF, F27]
  have x29 : ∀ b, b ≠ a0 → σ29 b = σ27 b := by rw [es29]; exact fun b hb => q_up_ne hb
  show q_O X 3 42 τ27 σ29 32 [(0, .ref a0)] []
  have FR : ∀ (b : Nat) (x : Nat × Nat), b ≠ a0 → τ b = some x → τ27 b = some x ∧ (x = (9, 0) ∨ x = (4, 0) ∨ x = (118, 64) ∨ x = (4, 1) ∨ x = (3, 1) → σ29 b = σ b) ∧ (x = (6, 1) → ∀ j, j < 4 → σ29 b j = σ b j) := by
    intro b x ba hb
    obtain ⟨y12, v12⟩ := x12.1 b x hb
    have w12 : b ≠ h12 := fun e => by rw [e, n12] at hb; cases hb
    obtain ⟨y20, v20⟩ := x20.1 b x y12
    have w20 : b ≠ h20 := fun e => by rw [e, n20] at y12; cases y12
    obtain ⟨y27, v27⟩ := x27.1 b x y20
    have w27 : b ≠ h27 := fun e => by rw [e, n27] at y20; cases y20
    refine ⟨y27, fun hx => ?_, fun hx => ?_⟩
    · skip
      have u0 : σ b = σ b := rfl
      have u6 := (x6 b ba).trans u0
      have u12 := v12.trans u6
      have u14 := (x14 b ba).trans u12
      have u20 := v20.trans u14
      have u22 := (x22 b ba).trans u20
      have u27 := v27.trans u22
      have u29 := (x29 b ba).trans u27
      exact u29
    · intro j hj
      have u0 : σ b j = σ b j := rfl
      have u6 := (congrFun (x6 b ba) j).trans u0
      have u12 := (congrFun v12 j).trans u6
      have u14 := (congrFun (x14 b ba) j).trans u12
      have u20 := (congrFun v20 j).trans u14
      have u22 := (congrFun (x22 b ba) j).trans u20
      have u27 := (congrFun v27 j).trans u22
      have u29 := (congrFun (x29 b ba) j).trans u27
      exact u29
  have EX : ∀ (b : Nat) (x : Nat × Nat), b ≠ a0 → τ b = some x → ∀ i : Nat, fx_N σ29 b i = fx_N σ b i := by
    intro b x ba hb i
    have e0 : fx_N σ b i = fx_N σ b i := rfl
    have e6 := (congrArg fx_num (congrFun (x6 b ba) i)).trans e0
    obtain ⟨y12, v12⟩ := x12.1 b x hb
    have w12 : b ≠ h12 := fun e => by rw [e, n12] at hb; cases hb
    have e12 := (congrArg fx_num (congrFun v12 i)).trans e6
    have e14 := (congrArg fx_num (congrFun (x14 b ba) i)).trans e12
    obtain ⟨y20, v20⟩ := x20.1 b x y12
    have w20 : b ≠ h20 := fun e => by rw [e, n20] at y12; cases y12
    have e20 := (congrArg fx_num (congrFun v20 i)).trans e14
    have e22 := (congrArg fx_num (congrFun (x22 b ba) i)).trans e20
    obtain ⟨y27, v27⟩ := x27.1 b x y20
    have w27 : b ≠ h27 := fun e => by rw [e, n27] at y20; cases y20
    have e27 := (congrArg fx_num (congrFun v27 i)).trans e22
    have e29 := (congrArg fx_num (congrFun (x29 b ba) i)).trans e27
    exact e29
  have N3 : ∀ b n : Nat, τ27 b = some (103, n) → τ b = some (103, n) := by
    intro b n hb
    have k27 := x27.2 b n hb
    have k20 := x20.2 b n k27
    have k12 := x12.2 b n k20
    exact k12
  have HF : ∀ j, j < q_nf 2 → q_v (q_tu τ27 a0 (2, 1)) (q_f 2 j) (σ29 a0 j) := by
    rw [F29]
    intro j hj
    rcases j with _ | j
    · show q_v _ (q_f 2 0) (.int 0); exact q_vi ff_2_0 rl_0 (by decide)
    rcases j with _ | j
    · show q_v _ (q_f 2 1) (.ref h12); exact q_vr (k := 137) (n := 20) ff_2_1 ((q_tu_ne (q_neT (x27.1 h12 _ (x20.1 h12 _ T12).1).1 A27.1 (by decide))).trans (x27.1 h12 _ (x20.1 h12 _ T12).1).1) (by decide)
    rcases j with _ | j
    · show q_v _ (q_f 2 2) (.ref h20); exact q_vr (k := 138) (n := 20) ff_2_2 ((q_tu_ne (q_neT (x27.1 h20 _ T20).1 A27.1 (by decide))).trans (x27.1 h20 _ T20).1) (by decide)
    rcases j with _ | j
    · show q_v _ (q_f 2 3) (.ref h27); exact q_vr (k := 139) (n := 2) ff_2_3 ((q_tu_ne (q_neT T27 A27.1 (by decide))).trans T27) (by decide)
    exact absurd hj (by show ¬ _ < 4; omega)
  refine q_retype A27.1 (by decide) ?_
  exact q_vret hG hE dX2_init_32 ⟨EX, ⟨I29.made (by decide) A27.1 HF, q_tu_new, fun b x hb h => by rw [q_tu_ne hb]; exact FR b x hb h, fun b n h => Classical.byCases (fun e : b = a0 => by rw [e, q_tu_new] at h; cases h) (fun e => by rw [q_tu_ne e] at h; exact N3 b n h)⟩⟩
theorem dX3_init_0 : decode cX3_init 0 = .ok (.aload_n 0, 1) := by decide +kernel
theorem dX3_init_1 : decode cX3_init 1 = .ok (.invokespecial 3, 3) := by decide +kernel
theorem dX3_init_4 : decode cX3_init 4 = .ok (.aload_n 0, 1) := by decide +kernel
theorem dX3_init_5 : decode cX3_init 5 = .ok (.iconst 0, 1) := by decide +kernel
theorem dX3_init_6 : decode cX3_init 6 = .ok (.putfield 9, 3) := by decide +kernel
theorem dX3_init_9 : decode cX3_init 9 = .ok (.aload_n 0, 1) := by decide +kernel
theorem dX3_init_10 : decode cX3_init 10 = .ok (.iconst 0, 1) := by decide +kernel
theorem dX3_init_11 : decode cX3_init 11 = .ok (.putfield 15, 3) := by decide +kernel
theorem dX3_init_14 : decode cX3_init 14 = .ok (.aload_n 0, 1) := by decide +kernel
theorem dX3_init_15 : decode cX3_init 15 = .ok (.iconst 0, 1) := by decide +kernel
theorem dX3_init_16 : decode cX3_init 16 = .ok (.putfield 18, 3) := by decide +kernel
theorem dX3_init_19 : decode cX3_init 19 = .ok (.aload_n 0, 1) := by decide +kernel
theorem dX3_init_20 : decode cX3_init 20 = .ok (.sipush 240, 3) := by decide +kernel
theorem dX3_init_23 : decode cX3_init 23 = .ok (.newarray .int, 2) := by decide +kernel
theorem dX3_init_25 : decode cX3_init 25 = .ok (.putfield 22, 3) := by decide +kernel
theorem dX3_init_28 : decode cX3_init 28 = .ok (.aload_n 0, 1) := by decide +kernel
theorem dX3_init_29 : decode cX3_init 29 = .ok (.sipush 240, 3) := by decide +kernel
theorem dX3_init_32 : decode cX3_init 32 = .ok (.newarray .int, 2) := by decide +kernel
theorem dX3_init_34 : decode cX3_init 34 = .ok (.putfield 26, 3) := by decide +kernel
theorem dX3_init_37 : decode cX3_init 37 = .ok (.aload_n 0, 1) := by decide +kernel
theorem dX3_init_38 : decode cX3_init 38 = .ok (.bipush 16, 2) := by decide +kernel
theorem dX3_init_40 : decode cX3_init 40 = .ok (.newarray .int, 2) := by decide +kernel
theorem dX3_init_42 : decode cX3_init 42 = .ok (.putfield 29, 3) := by decide +kernel
theorem dX3_init_45 : decode cX3_init 45 = .ok (.aload_n 0, 1) := by decide +kernel
theorem dX3_init_46 : decode cX3_init 46 = .ok (.bipush 16, 2) := by decide +kernel
theorem dX3_init_48 : decode cX3_init 48 = .ok (.newarray .int, 2) := by decide +kernel
theorem dX3_init_50 : decode cX3_init 50 = .ok (.putfield 32, 3) := by decide +kernel
theorem dX3_init_53 : decode cX3_init 53 = .ok (.aload_n 0, 1) := by decide +kernel
theorem dX3_init_54 : decode cX3_init 54 = .ok (.bipush 16, 2) := by decide +kernel
theorem dX3_init_56 : decode cX3_init 56 = .ok (.newarray .int, 2) := by decide +kernel
theorem dX3_init_58 : decode cX3_init 58 = .ok (.putfield 35, 3) := by decide +kernel
theorem dX3_init_61 : decode cX3_init 61 = .ok (.aload_n 0, 1) := by decide +kernel
theorem dX3_init_62 : decode cX3_init 62 = .ok (.bipush 32, 2) := by decide +kernel
theorem dX3_init_64 : decode cX3_init 64 = .ok (.newarray .int, 2) := by decide +kernel
theorem dX3_init_66 : decode cX3_init 66 = .ok (.putfield 38, 3) := by decide +kernel
theorem dX3_init_69 : decode cX3_init 69 = .ok (.aload_n 0, 1) := by decide +kernel
theorem dX3_init_70 : decode cX3_init 70 = .ok (.iconst 0, 1) := by decide +kernel
theorem dX3_init_71 : decode cX3_init 71 = .ok (.putfield 41, 3) := by decide +kernel
theorem dX3_init_74 : decode cX3_init 74 = .ok (.aload_n 0, 1) := by decide +kernel
theorem dX3_init_75 : decode cX3_init 75 = .ok (.iconst 0, 1) := by decide +kernel
theorem dX3_init_76 : decode cX3_init 76 = .ok (.putfield 44, 3) := by decide +kernel
theorem dX3_init_79 : decode cX3_init 79 = .ok (.aload_n 0, 1) := by decide +kernel
theorem dX3_init_80 : decode cX3_init 80 = .ok (.aconst_null, 1) := by decide +kernel
theorem dX3_init_81 : decode cX3_init 81 = .ok (.putfield 47, 3) := by decide +kernel
theorem dX3_init_84 : decode cX3_init 84 = .ok (.aload_n 0, 1) := by decide +kernel
theorem dX3_init_85 : decode cX3_init 85 = .ok (.iconst 0, 1) := by decide +kernel
theorem dX3_init_86 : decode cX3_init 86 = .ok (.putfield 51, 3) := by decide +kernel
theorem dX3_init_89 : decode cX3_init 89 = .ok (.aload_n 0, 1) := by decide +kernel
theorem dX3_init_90 : decode cX3_init 90 = .ok (.iconst 0, 1) := by decide +kernel
theorem dX3_init_91 : decode cX3_init 91 = .ok (.putfield 54, 3) := by decide +kernel
theorem dX3_init_94 : decode cX3_init 94 = .ok (.aload_n 0, 1) := by decide +kernel
theorem dX3_init_95 : decode cX3_init 95 = .ok (.iconst 0, 1) := by decide +kernel
theorem dX3_init_96 : decode cX3_init 96 = .ok (.putfield 57, 3) := by decide +kernel
theorem dX3_init_99 : decode cX3_init 99 = .ok (.aload_n 0, 1) := by decide +kernel
theorem dX3_init_100 : decode cX3_init 100 = .ok (.iconst 0, 1) := by decide +kernel
theorem dX3_init_101 : decode cX3_init 101 = .ok (.putfield 60, 3) := by decide +kernel
theorem dX3_init_104 : decode cX3_init 104 = .ok (.return_, 1) := by decide +kernel
set_option maxRecDepth 100000 in
set_option maxHeartbeats 4000000 in
theorem c_X3_init {l : Launch} {D : q_D} (τ : q_T) (σ : q_V) (a0 : Nat) (hI : q_I τ σ) (tA0 : τ a0 = some (3, 0)) : q_C l D yX3_init cX3_init 1 none 1 20 6 560 τ σ [.ref a0] q_ev (fun _ τ1 σ1 => (∀ (b : Nat) (x : Nat × Nat), b ≠ a0 → τ b = some x → ∀ i : Nat, fx_N σ1 b i = fx_N σ b i) ∧ q_X1 3 a0 τ σ τ1 σ1 ∧ ∃ sg vl l5 l6 l7 : Nat, (σ1 a0 3 = .ref sg ∧ σ1 a0 4 = .ref vl ∧ σ1 a0 5 = .ref l5 ∧ σ1 a0 6 = .ref l6 ∧ σ1 a0 7 = .ref l7) ∧ (τ sg = none ∧ τ vl = none ∧ τ l5 = none ∧ τ l6 = none ∧ τ l7 = none) ∧ σ1 a0 0 = .int 0 ∧ σ1 a0 1 = .int 0 ∧ σ1 a0 2 = .int 0) := by
  refine q_met rfl (Nat.le_of_ble_eq_true rfl) (fun X hG hE hnm => ?_)
  show q_O X 0 0 τ σ 0 [(0, .ref a0)] []
  refine q_aload_n (pc := 0) hG dX3_init_0 0 rfl ?_
  refine q_oin (pc := 1) hG w46 w22 w23 dX3_init_1 ⟨by decide, by decide⟩ (by decide) ?_
  refine q_aload_n (pc := 4) hG dX3_init_4 0 rfl ?_
  refine q_iconst (pc := 5) hG dX3_init_5 ki_0 ?_
  refine q_putV (pc := 6) hG fl_X3_9 dX3_init_6 tA0 rfl rfl ?_
  obtain ⟨σ6, es6⟩ : ∃ t : q_V, t = q_up σ a0 0 (.int 0) := ⟨_, rfl⟩
  rw [← es6]
  have I6 : q_I τ σ6 := by rw [es6]; exact hI.put tA0 (fun hj => absurd (show 0 < 0 from hj) (Nat.not_lt_zero _))
  have F6 : σ6 a0 = updV (σ a0) 0 (.int 0) := by rw [es6, q_upF]
  have x6 : ∀ b, b ≠ a0 → σ6 b = σ b := by rw [es6]; exact fun b hb => q_up_ne hb
  show q_O X 0 0 τ σ6 9 [(0, .ref a0)] []
  refine q_aload_n (pc := 9) hG dX3_init_9 0 rfl ?_
  refine q_iconst (pc := 10) hG dX3_init_10 ki_0 ?_
  refine q_putV (pc := 11) hG fl_X3_15 dX3_init_11 tA0 rfl rfl ?_
  obtain ⟨σ11, es11⟩ : ∃ t : q_V, t = q_up σ6 a0 1 (.int 0) := ⟨_, rfl⟩
  rw [← es11]
  have I11 : q_I τ σ11 := by rw [es11]; exact I6.put tA0 (fun hj => absurd (show 1 < 0 from hj) (Nat.not_lt_zero _))
  have F11 : σ11 a0 = updV (updV (σ a0) 0 (.int 0)) 1 (.int 0) := by rw [es11, q_upF, F6]
  have x11 : ∀ b, b ≠ a0 → σ11 b = σ6 b := by rw [es11]; exact fun b hb => q_up_ne hb
  show q_O X 0 0 τ σ11 14 [(0, .ref a0)] []
  refine q_aload_n (pc := 14) hG dX3_init_14 0 rfl ?_
  refine q_iconst (pc := 15) hG dX3_init_15 ki_0 ?_
  refine q_putV (pc := 16) hG fl_X3_18 dX3_init_16 tA0 rfl rfl ?_
  obtain ⟨σ16, es16⟩ : ∃ t : q_V, t = q_up σ11 a0 2 (.int 0) := ⟨_, rfl⟩
  rw [← es16]
  have I16 : q_I τ σ16 := by rw [es16]; exact I11.put tA0 (fun hj => absurd (show 2 < 0 from hj) (Nat.not_lt_zero _))
  have F16 : σ16 a0 = updV (updV (updV (σ a0) 0 (.int 0)) 1 (.int 0)) 2 (.int 0) := by rw [es16, q_upF, F11]
  have x16 : ∀ b, b ≠ a0 → σ16 b = σ11 b := by rw [es16]; exact fun b hb => q_up_ne hb
  show q_O X 0 0 τ σ16 19 [(0, .ref a0)] []
  refine q_aload_n (pc := 19) hG dX3_init_19 0 rfl ?_
  refine q_sipush (pc := 20) hG dX3_init_20 ks_240 ?_
  refine q_newA (pc := 23) (k := 112) (N := 240) (aty := .int) hG w36 dX3_init_23 ⟨by decide, by decide, rfl⟩ tl_240 (by decide) ⟨by decide, by decide⟩ (fun h23 n23 => ?_)
  obtain ⟨τ23, et23⟩ : ∃ t : q_T, t = q_tu τ h23 (112, 240) := ⟨_, rfl⟩
  obtain ⟨σ23, es23⟩ : ∃ t : q_V, t = q_vu σ16 h23 (fun _ => defaultValue (newarray.typeOf .int)) := ⟨_, rfl⟩
  rw [← et23, ← es23]
  have x23 : q_ex τ σ16 τ23 σ23 := by rw [et23, es23]; exact q_ex.mk n23 (Or.inl (by decide))
  have T23 : τ23 h23 = some (112, 240) := by rw [et23]; exact q_tu_new
  have z23 : σ23 h23 = (fun _ => defaultValue (newarray.typeOf .int)) := by rw [es23]; exact q_vu_new
  have I23 : q_I τ23 σ23 := by rw [et23, es23]; exact q_I.mk I16 n23 (fun j _ => (show q_v _ _ (.int 0) from q_vi (ai_112.2.2 j) rl_0 (by decide)))
  have A23 := x23.1 a0 _ tA0
  have F23 : σ23 a0 = updV (updV (updV (σ a0) 0 (.int 0)) 1 (.int 0)) 2 (.int 0) := A23.2.trans F16
  have N023 : τ h23 = none := by
    cases hz : τ h23 with
    | none => rfl
    | some z => have q := hz; rw [n23] at q; cases q
  show q_O X 1 240 τ23 σ23 25 [(0, .ref a0)] [.ref h23, .ref a0]
  refine q_putF (pc := 25) hG hnm fl_X3_22 (fun r hr => by cases hr; rfl) dX3_init_25 A23.1 rfl rfl ?_
  obtain ⟨σ25, es25⟩ : ∃ t : q_V, t = q_up σ23 a0 3 (.ref h23) := ⟨_, rfl⟩
  rw [← es25]
  have I25 : q_I τ23 σ25 := by rw [es25]; exact I23.put A23.1 (fun hj => absurd (show 3 < 0 from hj) (Nat.not_lt_zero _))
  have F25 : σ25 a0 = updV (updV (updV (updV (σ a0) 0 (.int 0)) 1 (.int 0)) 2 (.int 0)) 3 (.ref h23) := by rw [es25, q_upF, F23]
  have x25 : ∀ b, b ≠ a0 → σ25 b = σ23 b := by rw [es25]; exact fun b hb => q_up_ne hb
  show q_O X 1 240 τ23 σ25 28 [(0, .ref a0)] []
  refine q_aload_n (pc := 28) hG dX3_init_28 0 rfl ?_
  refine q_sipush (pc := 29) hG dX3_init_29 ks_240 ?_
  refine q_newA (pc := 32) (k := 113) (N := 240) (aty := .int) hG w36 dX3_init_32 ⟨by decide, by decide, rfl⟩ tl_240 (by decide) ⟨by decide, by decide⟩ (fun h32 n32 => ?_)
  obtain ⟨τ32, et32⟩ : ∃ t : q_T, t = q_tu τ23 h32 (113, 240) := ⟨_, rfl⟩
  obtain ⟨σ32, es32⟩ : ∃ t : q_V, t = q_vu σ25 h32 (fun _ => defaultValue (newarray.typeOf .int)) := ⟨_, rfl⟩
  rw [← et32, ← es32]
  have x32 : q_ex τ23 σ25 τ32 σ32 := by rw [et32, es32]; exact q_ex.mk n32 (Or.inl (by decide))
  have T32 : τ32 h32 = some (113, 240) := by rw [et32]; exact q_tu_new
  have z32 : σ32 h32 = (fun _ => defaultValue (newarray.typeOf .int)) := by rw [es32]; exact q_vu_new
  have I32 : q_I τ32 σ32 := by rw [et32, es32]; exact q_I.mk I25 n32 (fun j _ => (show q_v _ _ (.int 0) from q_vi (ai_113.2.2 j) rl_0 (by decide)))
  have A32 := x32.1 a0 _ A23.1
  have F32 : σ32 a0 = updV (updV (updV (updV (σ a0) 0 (.int 0)) 1 (.int 0)) 2 (.int 0)) 3 (.ref h23) := A32.2.trans F25
  have N032 : τ h32 = none := by
    cases hz : τ h32 with
    | none => rfl
    | some z => have q := (x23.1 h32 _ hz).1; rw [n32] at q; cases q
  show q_O X 2 480 τ32 σ32 34 [(0, .ref a0)] [.ref h32, .ref a0]
  refine q_putF (pc := 34) hG hnm fl_X3_26 (fun r hr => by cases hr; rfl) dX3_init_34 A32.1 rfl rfl ?_
  obtain ⟨σ34, es34⟩ : ∃ t : q_V, t = q_up σ32 a0 4 (.ref h32) := ⟨_, rfl⟩
  rw [← es34]
  have I34 : q_I τ32 σ34 := by rw [es34]; exact I32.put A32.1 (fun hj => absurd (show 4 < 0 from hj) (Nat.not_lt_zero _))
  have F34 : σ34 a0 = updV (updV (updV (updV (updV (σ a0) 0 (.int 0)) 1 (.int 0)) 2 (.int 0)) 3 (.ref h23)) 4 (.ref h32) := by rw [es34, q_upF, F32]
  have x34 : ∀ b, b ≠ a0 → σ34 b = σ32 b := by rw [es34]; exact fun b hb => q_up_ne hb
  show q_O X 2 480 τ32 σ34 37 [(0, .ref a0)] []
  refine q_aload_n (pc := 37) hG dX3_init_37 0 rfl ?_
  refine q_bipush (pc := 38) hG dX3_init_38 kb_16 ?_
  refine q_newA (pc := 40) (k := 114) (N := 16) (aty := .int) hG w36 dX3_init_40 ⟨by decide, by decide, rfl⟩ tl_16 (by decide) ⟨by decide, by decide⟩ (fun h40 n40 => ?_)
  obtain ⟨τ40, et40⟩ : ∃ t : q_T, t = q_tu τ32 h40 (114, 16) := ⟨_, rfl⟩
  obtain ⟨σ40, es40⟩ : ∃ t : q_V, t = q_vu σ34 h40 (fun _ => defaultValue (newarray.typeOf .int)) := ⟨_, rfl⟩
  rw [← et40, ← es40]
  have x40 : q_ex τ32 σ34 τ40 σ40 := by rw [et40, es40]; exact q_ex.mk n40 (Or.inl (by decide))
  have T40 : τ40 h40 = some (114, 16) := by rw [et40]; exact q_tu_new
  have z40 : σ40 h40 = (fun _ => defaultValue (newarray.typeOf .int)) := by rw [es40]; exact q_vu_new
  have I40 : q_I τ40 σ40 := by rw [et40, es40]; exact q_I.mk I34 n40 (fun j _ => (show q_v _ _ (.int 0) from q_vi (ai_114.2.2 j) rl_0 (by decide)))
  have A40 := x40.1 a0 _ A32.1
  have F40 : σ40 a0 = updV (updV (updV (updV (updV (σ a0) 0 (.int 0)) 1 (.int 0)) 2 (.int 0)) 3 (.ref h23)) 4 (.ref h32) := A40.2.trans F34
  have N040 : τ h40 = none := by
    cases hz : τ h40 with
    | none => rfl
    | some z => have q := (x32.1 h40 _ (x23.1 h40 _ hz).1).1; rw [n40] at q; cases q
  show q_O X 3 496 τ40 σ40 42 [(0, .ref a0)] [.ref h40, .ref a0]
  refine q_putF (pc := 42) hG hnm fl_X3_29 (fun r hr => by cases hr; rfl) dX3_init_42 A40.1 rfl rfl ?_
  obtain ⟨σ42, es42⟩ : ∃ t : q_V, t = q_up σ40 a0 5 (.ref h40) := ⟨_, rfl⟩
  rw [← es42]
  have I42 : q_I τ40 σ42 := by rw [es42]; exact I40.put A40.1 (fun hj => absurd (show 5 < 0 from hj) (Nat.not_lt_zero _))
  have F42 : σ42 a0 = updV (updV (updV (updV (updV (updV (σ a0) 0 (.int 0)) 1 (.int 0)) 2 (.int 0)) 3 (.ref h23)) 4 (.ref h32)) 5 (.ref h40) := by rw [es42, q_upF, F40]
  have x42 : ∀ b, b ≠ a0 → σ42 b = σ40 b := by rw [es42]; exact fun b hb => q_up_ne hb
  show q_O X 3 496 τ40 σ42 45 [(0, .ref a0)] []
  refine q_aload_n (pc := 45) hG dX3_init_45 0 rfl ?_
  refine q_bipush (pc := 46) hG dX3_init_46 kb_16 ?_
  refine q_newA (pc := 48) (k := 115) (N := 16) (aty := .int) hG w36 dX3_init_48 ⟨by decide, by decide, rfl⟩ tl_16 (by decide) ⟨by decide, by decide⟩ (fun h48 n48 => ?_)
  obtain ⟨τ48, et48⟩ : ∃ t : q_T, t = q_tu τ40 h48 (115, 16) := ⟨_, rfl⟩
  obtain ⟨σ48, es48⟩ : ∃ t : q_V, t = q_vu σ42 h48 (fun _ => defaultValue (newarray.typeOf .int)) := ⟨_, rfl⟩
  rw [← et48, ← es48]
  have x48 : q_ex τ40 σ42 τ48 σ48 := by rw [et48, es48]; exact q_ex.mk n48 (Or.inl (by decide))
  have T48 : τ48 h48 = some (115, 16) := by rw [et48]; exact q_tu_new
  have z48 : σ48 h48 = (fun _ => defaultValue (newarray.typeOf .int)) := by rw [es48]; exact q_vu_new
  have I48 : q_I τ48 σ48 := by rw [et48, es48]; exact q_I.mk I42 n48 (fun j _ => (show q_v _ _ (.int 0) from q_vi (ai_115.2.2 j) rl_0 (by decide)))
  have A48 := x48.1 a0 _ A40.1
  have F48 : σ48 a0 = updV (updV (updV (updV (updV (updV (σ a0) 0 (.int 0)) 1 (.int 0)) 2 (.int 0)) 3 (.ref h23)) 4 (.ref h32)) 5 (.ref h40) := A48.2.trans F42
  have N048 : τ h48 = none := by
    cases hz : τ h48 with
    | none => rfl
    | some z => have q := (x40.1 h48 _ (x32.1 h48 _ (x23.1 h48 _ hz).1).1).1; rw [n48] at q; cases q
  show q_O X 4 512 τ48 σ48 50 [(0, .ref a0)] [.ref h48, .ref a0]
  refine q_putF (pc := 50) hG hnm fl_X3_32 (fun r hr => by cases hr; rfl) dX3_init_50 A48.1 rfl rfl ?_
  obtain ⟨σ50, es50⟩ : ∃ t : q_V, t = q_up σ48 a0 6 (.ref h48) := ⟨_, rfl⟩
  rw [← es50]
  have I50 : q_I τ48 σ50 := by rw [es50]; exact I48.put A48.1 (fun hj => absurd (show 6 < 0 from hj) (Nat.not_lt_zero _))
  have F50 : σ50 a0 = updV (updV (updV (updV (updV (updV (updV (σ a0) 0 (.int 0)) 1 (.int 0)) 2 (.int 0)) 3 (.ref h23)) 4 (.ref h32)) 5 (.ref h40)) 6 (.ref h48) := by rw [es50, q_upF, F48]
  have x50 : ∀ b, b ≠ a0 → σ50 b = σ48 b := by rw [es50]; exact fun b hb => q_up_ne hb
  show q_O X 4 512 τ48 σ50 53 [(0, .ref a0)] []
  refine q_aload_n (pc := 53) hG dX3_init_53 0 rfl ?_
  refine q_bipush (pc := 54) hG dX3_init_54 kb_16 ?_
  refine q_newA (pc := 56) (k := 116) (N := 16) (aty := .int) hG w36 dX3_init_56 ⟨by decide, by decide, rfl⟩ tl_16 (by decide) ⟨by decide, by decide⟩ (fun h56 n56 => ?_)
  obtain ⟨τ56, et56⟩ : ∃ t : q_T, t = q_tu τ48 h56 (116, 16) := ⟨_, rfl⟩
  obtain ⟨σ56, es56⟩ : ∃ t : q_V, t = q_vu σ50 h56 (fun _ => defaultValue (newarray.typeOf .int)) := ⟨_, rfl⟩
  rw [← et56, ← es56]
  have x56 : q_ex τ48 σ50 τ56 σ56 := by rw [et56, es56]; exact q_ex.mk n56 (Or.inl (by decide))
  have T56 : τ56 h56 = some (116, 16) := by rw [et56]; exact q_tu_new
  have z56 : σ56 h56 = (fun _ => defaultValue (newarray.typeOf .int)) := by rw [es56]; exact q_vu_new
  have I56 : q_I τ56 σ56 := by rw [et56, es56]; exact q_I.mk I50 n56 (fun j _ => (show q_v _ _ (.int 0) from q_vi (ai_116.2.2 j) rl_0 (by decide)))
  have A56 := x56.1 a0 _ A48.1
  have F56 : σ56 a0 = updV (updV (updV (updV (updV (updV (updV (σ a0) 0 (.int 0)) 1 (.int 0)) 2 (.int 0)) 3 (.ref h23)) 4 (.ref h32)) 5 (.ref h40)) 6 (.ref h48) := A56.2.trans F50
  have N056 : τ h56 = none := by
    cases hz : τ h56 with
    | none => rfl
    | some z => have q := (x48.1 h56 _ (x40.1 h56 _ (x32.1 h56 _ (x23.1 h56 _ hz).1).1).1).1; rw [n56] at q; cases q
  show q_O X 5 528 τ56 σ56 58 [(0, .ref a0)] [.ref h56, .ref a0]
  refine q_putF (pc := 58) hG hnm fl_X3_35 (fun r hr => by cases hr; rfl) dX3_init_58 A56.1 rfl rfl ?_
  obtain ⟨σ58, es58⟩ : ∃ t : q_V, t = q_up σ56 a0 7 (.ref h56) := ⟨_, rfl⟩
  rw [← es58]
  have I58 : q_I τ56 σ58 := by rw [es58]; exact I56.put A56.1 (fun hj => absurd (show 7 < 0 from hj) (Nat.not_lt_zero _))
  have F58 : σ58 a0 = updV (updV (updV (updV (updV (updV (updV (updV (σ a0) 0 (.int 0)) 1 (.int 0)) 2 (.int 0)) 3 (.ref h23)) 4 (.ref h32)) 5 (.ref h40)) 6 (.ref h48)) 7 (.ref h56) := by rw [es58, q_upF, F56]
  have x58 : ∀ b, b ≠ a0 → σ58 b = σ56 b := by rw [es58]; exact fun b hb => q_up_ne hb
  show q_O X 5 528 τ56 σ58 61 [(0, .ref a0)] []
  refine q_aload_n (pc := 61) hG dX3_init_61 0 rfl ?_
  refine q_bipush (pc := 62) hG dX3_init_62 kb_32 ?_
  refine q_newA (pc := 64) (k := 117) (N := 32) (aty := .int) hG w36 dX3_init_64 ⟨by decide, by decide, rfl⟩ tl_32 (by decide) ⟨by decide, by decide⟩ (fun h64 n64 => ?_)
  obtain ⟨τ64, et64⟩ : ∃ t : q_T, t = q_tu τ56 h64 (117, 32) := ⟨_, rfl⟩
  obtain ⟨σ64, es64⟩ : ∃ t : q_V, t = q_vu σ58 h64 (fun _ => defaultValue (newarray.typeOf .int)) := ⟨_, rfl⟩
  rw [← et64, ← es64]
  have x64 : q_ex τ56 σ58 τ64 σ64 := by rw [et64, es64]; exact q_ex.mk n64 (Or.inl (by decide))
  have T64 : τ64 h64 = some (117, 32) := by rw [et64]; exact q_tu_new
  have z64 : σ64 h64 = (fun _ => defaultValue (newarray.typeOf .int)) := by rw [es64]; exact q_vu_new
  have I64 : q_I τ64 σ64 := by rw [et64, es64]; exact q_I.mk I58 n64 (fun j _ => (show q_v _ _ (.int 0) from q_vi (ai_117.2.2 j) rl_0 (by decide)))
  have A64 := x64.1 a0 _ A56.1
  have F64 : σ64 a0 = updV (updV (updV (updV (updV (updV (updV (updV (σ a0) 0 (.int 0)) 1 (.int 0)) 2 (.int 0)) 3 (.ref h23)) 4 (.ref h32)) 5 (.ref h40)) 6 (.ref h48)) 7 (.ref h56) := A64.2.trans F58
  show q_O X 6 560 τ64 σ64 66 [(0, .ref a0)] [.ref h64, .ref a0]
  refine q_putF (pc := 66) hG hnm fl_X3_38 (fun r hr => by cases hr; rfl) dX3_init_66 A64.1 rfl rfl ?_
  obtain ⟨σ66, es66⟩ : ∃ t : q_V, t = q_up σ64 a0 8 (.ref h64) := ⟨_, rfl⟩
  rw [← es66]
  have I66 : q_I τ64 σ66 := by rw [es66]; exact I64.put A64.1 (fun hj => absurd (show 8 < 0 from hj) (Nat.not_lt_zero _))
  have F66 : σ66 a0 = updV (updV (updV (updV (updV (updV (updV (updV (updV (σ a0) 0 (.int 0)) 1 (.int 0)) 2 (.int 0)) 3 (.ref h23)) 4 (.ref h32)) 5 (.ref h40)) 6 (.ref h48)) 7 (.ref h56)) 8 (.ref h64) := by rw [es66, q_upF, F64]
  have x66 : ∀ b, b ≠ a0 → σ66 b = σ64 b := by rw [es66]; exact fun b hb => q_up_ne hb
  show q_O X 6 560 τ64 σ66 69 [(0, .ref a0)] []
  refine q_aload_n (pc := 69) hG dX3_init_69 0 rfl ?_
  refine q_iconst (pc := 70) hG dX3_init_70 ki_0 ?_
  refine q_putV (pc := 71) hG fl_X3_41 dX3_init_71 A64.1 rfl rfl ?_
  obtain ⟨σ71, es71⟩ : ∃ t : q_V, t = q_up σ66 a0 9 (.int 0) := ⟨_, rfl⟩
  rw [← es71]
  have I71 : q_I τ64 σ71 := by rw [es71]; exact I66.put A64.1 (fun hj => absurd (show 9 < 0 from hj) (Nat.not_lt_zero _))
  have F71 : σ71 a0 = updV (updV (updV (updV (updV (updV (updV (updV (updV (updV (σ a0) 0 (.int 0)) 1 (.int 0)) 2 (.int 0)) 3 (.ref h23)) 4 (.ref h32)) 5 (.ref h40)) 6 (.ref h48)) 7 (.ref h56)) 8 (.ref h64)) 9 (.int 0) := by rw [es71, q_upF, F66]
  have x71 : ∀ b, b ≠ a0 → σ71 b = σ66 b := by rw [es71]; exact fun b hb => q_up_ne hb
  show q_O X 6 560 τ64 σ71 74 [(0, .ref a0)] []
  refine q_aload_n (pc := 74) hG dX3_init_74 0 rfl ?_
  refine q_iconst (pc := 75) hG dX3_init_75 ki_0 ?_
  refine q_putV (pc := 76) hG fl_X3_44 dX3_init_76 A64.1 rfl rfl ?_
  obtain ⟨σ76, es76⟩ : ∃ t : q_V, t = q_up σ71 a0 10 (.int 0) := ⟨_, rfl⟩
  rw [← es76]
  have I76 : q_I τ64 σ76 := by rw [es76]; exact I71.put A64.1 (fun hj => absurd (show 10 < 0 from hj) (Nat.not_lt_zero _))
  have F76 : σ76 a0 = updV (updV (updV (updV (updV (updV (updV (updV (updV (updV (updV (σ a0) 0 (.int 0)) 1 (.int 0)) 2 (.int 0)) 3 (.ref h23)) 4 (.ref h32)) 5 (.ref h40)) 6 (.ref h48)) 7 (.ref h56)) 8 (.ref h64)) 9 (.int 0)) 10 (.int 0) := by rw [es76, q_upF, F71]
  have x76 : ∀ b, b ≠ a0 → σ76 b = σ71 b := by rw [es76]; exact fun b hb => q_up_ne hb
  show q_O X 6 560 τ64 σ76 79 [(0, .ref a0)] []
  refine q_aload_n (pc := 79) hG dX3_init_79 0 rfl ?_
  refine q_null (pc := 80) hG dX3_init_80 ?_
  refine q_putV (pc := 81) hG fl_X3_47 dX3_init_81 A64.1 rfl rfl ?_
  obtain ⟨σ81, es81⟩ : ∃ t : q_V, t = q_up σ76 a0 11 (.null) := ⟨_, rfl⟩
  rw [← es81]
  have I81 : q_I τ64 σ81 := by rw [es81]; exact I76.put A64.1 (fun hj => absurd (show 11 < 0 from hj) (Nat.not_lt_zero _))
  have F81 : σ81 a0 = updV (updV (updV (updV (updV (updV (updV (updV (updV (updV (updV (updV (σ a0) 0 (.int 0)) 1 (.int 0)) 2 (.int 0)) 3 (.ref h23)) 4 (.ref h32)) 5 (.ref h40)) 6 (.ref h48)) 7 (.ref h56)) 8 (.ref h64)) 9 (.int 0)) 10 (.int 0)) 11 (.null) := by rw [es81, q_upF, F76]
  have x81 : ∀ b, b ≠ a0 → σ81 b = σ76 b := by rw [es81]; exact fun b hb => q_up_ne hb
  show q_O X 6 560 τ64 σ81 84 [(0, .ref a0)] []
  refine q_aload_n (pc := 84) hG dX3_init_84 0 rfl ?_
  refine q_iconst (pc := 85) hG dX3_init_85 ki_0 ?_
  refine q_putV (pc := 86) hG fl_X3_51 dX3_init_86 A64.1 rfl rfl ?_
  obtain ⟨σ86, es86⟩ : ∃ t : q_V, t = q_up σ81 a0 12 (.int 0) := ⟨_, rfl⟩
  rw [← es86]
  have I86 : q_I τ64 σ86 := by rw [es86]; exact I81.put A64.1 (fun hj => absurd (show 12 < 0 from hj) (Nat.not_lt_zero _))
  have F86 : σ86 a0 = updV (updV (updV (updV (updV (updV (updV (updV (updV (updV (updV (updV (updV (σ a0) 0 (.int 0)) 1 (.int 0)) 2 (.int 0)) 3 (.ref h23)) 4 (.ref h32)) 5 (.ref h40)) 6 (.ref h48)) 7 (.ref h56)) 8 (.ref h64)) 9 (.int 0)) 10 (.int 0)) 11 (.null)) 12 (.int 0) := by rw [es86, q_upF, F81]
  have x86 : ∀ b, b ≠ a0 → σ86 b = σ81 b := by rw [es86]; exact fun b hb => q_up_ne hb
  show q_O X 6 560 τ64 σ86 89 [(0, .ref a0)] []
  refine q_aload_n (pc := 89) hG dX3_init_89 0 rfl ?_
  refine q_iconst (pc := 90) hG dX3_init_90 ki_0 ?_
  refine q_putV (pc := 91) hG fl_X3_54 dX3_init_91 A64.1 rfl rfl ?_
  obtain ⟨σ91, es91⟩ : ∃ t : q_V, t = q_up σ86 a0 13 (.int 0) := ⟨_, rfl⟩
  rw [← es91]
  have I91 : q_I τ64 σ91 := by rw [es91]; exact I86.put A64.1 (fun hj => absurd (show 13 < 0 from hj) (Nat.not_lt_zero _))
  have F91 : σ91 a0 = updV (updV (updV (updV (updV (updV (updV (updV (updV (updV (updV (updV (updV (updV (σ a0) 0 (.int 0)) 1 (.int 0)) 2 (.int 0)) 3 (.ref h23)) 4 (.ref h32)) 5 (.ref h40)) 6 (.ref h48)) 7 (.ref h56)) 8 (.ref h64)) 9 (.int 0)) 10 (.int 0)) 11 (.null)) 12 (.int 0)) 13 (.int 0) := by rw [es91, q_upF, F86]
  have x91 : ∀ b, b ≠ a0 → σ91 b = σ86 b := by rw [es91]; exact fun b hb => q_up_ne hb
  show q_O X 6 560 τ64 σ91 94 [(0, .ref a0)] []
  refine q_aload_n (pc := 94) hG dX3_init_94 0 rfl ?_
  refine q_iconst (pc := 95) hG dX3_init_95 ki_0 ?_
  refine q_putV (pc := 96) hG fl_X3_57 dX3_init_96 A64.1 rfl rfl ?_
  obtain ⟨σ96, es96⟩ : ∃ t : q_V, t = q_up σ91 a0 14 (.int 0) := ⟨_, rfl⟩
  rw [← es96]
  have I96 : q_I τ64 σ96 := by rw [es96]; exact I91.put A64.1 (fun hj => absurd (show 14 < 0 from hj) (Nat.not_lt_zero _))
  have F96 : σ96 a0 = updV (updV (updV (updV (updV (updV (updV (updV (updV (updV (updV (updV (updV (updV (updV (σ a0) 0 (.int 0)) 1 (.int 0)) 2 (.int 0)) 3 (.ref h23)) 4 (.ref h32)) 5 (.ref h40)) 6 (.ref h48)) 7 (.ref h56)) 8 (.ref h64)) 9 (.int 0)) 10 (.int 0)) 11 (.null)) 12 (.int 0)) 13 (.int 0)) 14 (.int 0) := by rw [es96, q_upF, F91]
  have x96 : ∀ b, b ≠ a0 → σ96 b = σ91 b := by rw [es96]; exact fun b hb => q_up_ne hb
  show q_O X 6 560 τ64 σ96 99 [(0, .ref a0)] []
  refine q_aload_n (pc := 99) hG dX3_init_99 0 rfl ?_
  refine q_iconst (pc := 100) hG dX3_init_100 ki_0 ?_
  refine q_putV (pc := 101) hG fl_X3_60 dX3_init_101 A64.1 rfl rfl ?_
  obtain ⟨σ101, es101⟩ : ∃ t : q_V, t = q_up σ96 a0 15 (.int 0) := ⟨_, rfl⟩
  rw [← es101]
  have I101 : q_I τ64 σ101 := by rw [es101]; exact I96.put A64.1 (fun hj => absurd (show 15 < 0 from hj) (Nat.not_lt_zero _))
  have F101 : σ101 a0 = updV (updV (updV (updV (updV (updV (updV (updV (updV (updV (updV (updV (updV (updV (updV (updV (σ a0) 0 (.int 0)) 1 (.int 0)) 2 (.int 0)) 3 (.ref h23)) 4 (.ref h32)) 5 (.ref h40)) 6 (.ref h48)) 7 (.ref h56)) 8 (.ref h64)) 9 (.int 0)) 10 (.int 0)) 11 (.null)) 12 (.int 0)) 13 (.int 0)) 14 (.int 0)) 15 (.int 0) := by rw [es101, q_upF, F96]
  have x101 : ∀ b, b ≠ a0 → σ101 b = σ96 b := by rw [es101]; exact fun b hb => q_up_ne hb
  show q_O X 6 560 τ64 σ101 104 [(0, .ref a0)] []
  have FR : ∀ (b : Nat) (x : Nat × Nat), b ≠ a0 → τ b = some x → τ64 b = some x ∧ (x = (9, 0) ∨ x = (4, 0) ∨ x = (118, 64) ∨ x = (4, 1) ∨ x = (3, 1) → σ101 b = σ b) ∧ (x = (6, 1) → ∀ j, j < 4 → σ101 b j = σ b j) := by
    intro b x ba hb
    obtain ⟨y23, v23⟩ := x23.1 b x hb
    have w23 : b ≠ h23 := fun e => by rw [e, n23] at hb; cases hb
    obtain ⟨y32, v32⟩ := x32.1 b x y23
    have w32 : b ≠ h32 := fun e => by rw [e, n32] at y23; cases y23
    obtain ⟨y40, v40⟩ := x40.1 b x y32
    have w40 : b ≠ h40 := fun e => by rw [e, n40] at y32; cases y32
    obtain ⟨y48, v48⟩ := x48.1 b x y40
    have w48 : b ≠ h48 := fun e => by rw [e, n48] at y40; cases y40
    obtain ⟨y56, v56⟩ := x56.1 b x y48
    have w56 : b ≠ h56 := fun e => by rw [e, n56] at y48; cases y48
    obtain ⟨y64, v64⟩ := x64.1 b x y56
    have w64 : b ≠ h64 := fun e => by rw [e, n64] at y56; cases y56
    refine ⟨y64, fun hx => ?_, fun hx => ?_⟩
    · skip
      have u0 : σ b = σ b := rfl
      have u6 := (x6 b ba).trans u0
      have u11 := (x11 b ba).trans u6
      have u16 := (x16 b ba).trans u11
      have u23 := v23.trans u16
      have u25 := (x25 b ba).trans u23
      have u32 := v32.trans u25
      have u34 := (x34 b ba).trans u32
      have u40 := v40.trans u34
      have u42 := (x42 b ba).trans u40
      have u48 := v48.trans u42
      have u50 := (x50 b ba).trans u48
      have u56 := v56.trans u50
      have u58 := (x58 b ba).trans u56
      have u64 := v64.trans u58
      have u66 := (x66 b ba).trans u64
      have u71 := (x71 b ba).trans u66
      have u76 := (x76 b ba).trans u71
      have u81 := (x81 b ba).trans u76
      have u86 := (x86 b ba).trans u81
      have u91 := (x91 b ba).trans u86
      have u96 := (x96 b ba).trans u91
      have u101 := (x101 b ba).trans u96
      exact u101
    · intro j hj
      have u0 : σ b j = σ b j := rfl
      have u6 := (congrFun (x6 b ba) j).trans u0
      have u11 := (congrFun (x11 b ba) j).trans u6
      have u16 := (congrFun (x16 b ba) j).trans u11
      have u23 := (congrFun v23 j).trans u16
      have u25 := (congrFun (x25 b ba) j).trans u23
      have u32 := (congrFun v32 j).trans u25
      have u34 := (congrFun (x34 b ba) j).trans u32
      have u40 := (congrFun v40 j).trans u34
      have u42 := (congrFun (x42 b ba) j).trans u40
      have u48 := (congrFun v48 j).trans u42
      have u50 := (congrFun (x50 b ba) j).trans u48
      have u56 := (congrFun v56 j).trans u50
      have u58 := (congrFun (x58 b ba) j).trans u56
      have u64 := (congrFun v64 j).trans u58
      have u66 := (congrFun (x66 b ba) j).trans u64
      have u71 := (congrFun (x71 b ba) j).trans u66
      have u76 := (congrFun (x76 b ba) j).trans u71
      have u81 := (congrFun (x81 b ba) j).trans u76
      have u86 := (congrFun (x86 b ba) j).trans u81
      have u91 := (congrFun (x91 b ba) j).trans u86
      have u96 := (congrFun (x96 b ba) j).trans u91
      have u101 := (congrFun (x101 b ba) j).trans u96
      exact u101
  have EX : ∀ (b : Nat) (x : Nat × Nat), b ≠ a0 → τ b = some x → ∀ i : Nat, fx_N σ101 b i = fx_N σ b i := by
    intro b x ba hb i
    have e0 : fx_N σ b i = fx_N σ b i := rfl
    have e6 := (congrArg fx_num (congrFun (x6 b ba) i)).trans e0
    have e11 := (congrArg fx_num (congrFun (x11 b ba) i)).trans e6
    have e16 := (congrArg fx_num (congrFun (x16 b ba) i)).trans e11
    obtain ⟨y23, v23⟩ := x23.1 b x hb
    have w23 : b ≠ h23 := fun e => by rw [e, n23] at hb; cases hb
    have e23 := (congrArg fx_num (congrFun v23 i)).trans e16
    have e25 := (congrArg fx_num (congrFun (x25 b ba) i)).trans e23
    obtain ⟨y32, v32⟩ := x32.1 b x y23
    have w32 : b ≠ h32 := fun e => by rw [e, n32] at y23; cases y23
    have e32 := (congrArg fx_num (congrFun v32 i)).trans e25
    have e34 := (congrArg fx_num (congrFun (x34 b ba) i)).trans e32
    obtain ⟨y40, v40⟩ := x40.1 b x y32
    have w40 : b ≠ h40 := fun e => by rw [e, n40] at y32; cases y32
    have e40 := (congrArg fx_num (congrFun v40 i)).trans e34
    have e42 := (congrArg fx_num (congrFun (x42 b ba) i)).trans e40
    obtain ⟨y48, v48⟩ := x48.1 b x y40
    have w48 : b ≠ h48 := fun e => by rw [e, n48] at y40; cases y40
    have e48 := (congrArg fx_num (congrFun v48 i)).trans e42
    have e50 := (congrArg fx_num (congrFun (x50 b ba) i)).trans e48
    obtain ⟨y56, v56⟩ := x56.1 b x y48
    have w56 : b ≠ h56 := fun e => by rw [e, n56] at y48; cases y48
    have e56 := (congrArg fx_num (congrFun v56 i)).trans e50
    have e58 := (congrArg fx_num (congrFun (x58 b ba) i)).trans e56
    obtain ⟨y64, v64⟩ := x64.1 b x y56
    have w64 : b ≠ h64 := fun e => by rw [e, n64] at y56; cases y56
    have e64 := (congrArg fx_num (congrFun v64 i)).trans e58
    have e66 := (congrArg fx_num (congrFun (x66 b ba) i)).trans e64
    have e71 := (congrArg fx_num (congrFun (x71 b ba) i)).trans e66
    have e76 := (congrArg fx_num (congrFun (x76 b ba) i)).trans e71
    have e81 := (congrArg fx_num (congrFun (x81 b ba) i)).trans e76
    have e86 := (congrArg fx_num (congrFun (x86 b ba) i)).trans e81
    have e91 := (congrArg fx_num (congrFun (x91 b ba) i)).trans e86
    have e96 := (congrArg fx_num (congrFun (x96 b ba) i)).trans e91
    have e101 := (congrArg fx_num (congrFun (x101 b ba) i)).trans e96
    exact e101
  have N3 : ∀ b n : Nat, τ64 b = some (103, n) → τ b = some (103, n) := by
    intro b n hb
    have k64 := x64.2 b n hb
    have k56 := x56.2 b n k64
    have k48 := x48.2 b n k56
    have k40 := x40.2 b n k48
    have k32 := x32.2 b n k40
    have k23 := x23.2 b n k32
    exact k23
  have HF : ∀ j, j < q_nf 3 → q_v (q_tu τ64 a0 (3, 1)) (q_f 3 j) (σ101 a0 j) := by
    rw [F101]
    intro j hj
    rcases j with _ | j
    · show q_v _ (q_f 3 0) (.int 0); exact q_vi ff_3_0 rl_0 (by decide)
    rcases j with _ | j
    · show q_v _ (q_f 3 1) (.int 0); exact q_vi ff_3_1 rl_0 (by decide)
    rcases j with _ | j
    · show q_v _ (q_f 3 2) (.int 0); exact q_vi ff_3_2 rl_0 (by decide)
    rcases j with _ | j
    · show q_v _ (q_f 3 3) (.ref h23); exact q_vr (k := 112) (n := 240) ff_3_3 ((q_tu_ne (q_neT (x64.1 h23 _ (x56.1 h23 _ (x48.1 h23 _ (x40.1 h23 _ (x32.1 h23 _ T23).1).1).1).1).1 A64.1 (by decide))).trans (x64.1 h23 _ (x56.1 h23 _ (x48.1 h23 _ (x40.1 h23 _ (x32.1 h23 _ T23).1).1).1).1).1) (by decide)
    rcases j with _ | j
    · show q_v _ (q_f 3 4) (.ref h32); exact q_vr (k := 113) (n := 240) ff_3_4 ((q_tu_ne (q_neT (x64.1 h32 _ (x56.1 h32 _ (x48.1 h32 _ (x40.1 h32 _ T32).1).1).1).1 A64.1 (by decide))).trans (x64.1 h32 _ (x56.1 h32 _ (x48.1 h32 _ (x40.1 h32 _ T32).1).1).1).1) (by decide)
    rcases j with _ | j
    · show q_v _ (q_f 3 5) (.ref h40); exact q_vr (k := 114) (n := 16) ff_3_5 ((q_tu_ne (q_neT (x64.1 h40 _ (x56.1 h40 _ (x48.1 h40 _ T40).1).1).1 A64.1 (by decide))).trans (x64.1 h40 _ (x56.1 h40 _ (x48.1 h40 _ T40).1).1).1) (by decide)
    rcases j with _ | j
    · show q_v _ (q_f 3 6) (.ref h48); exact q_vr (k := 115) (n := 16) ff_3_6 ((q_tu_ne (q_neT (x64.1 h48 _ (x56.1 h48 _ T48).1).1 A64.1 (by decide))).trans (x64.1 h48 _ (x56.1 h48 _ T48).1).1) (by decide)
    rcases j with _ | j
    · show q_v _ (q_f 3 7) (.ref h56); exact q_vr (k := 116) (n := 16) ff_3_7 ((q_tu_ne (q_neT (x64.1 h56 _ T56).1 A64.1 (by decide))).trans (x64.1 h56 _ T56).1) (by decide)
    rcases j with _ | j
    · show q_v _ (q_f 3 8) (.ref h64); exact q_vr (k := 117) (n := 32) ff_3_8 ((q_tu_ne (q_neT T64 A64.1 (by decide))).trans T64) (by decide)
    rcases j with _ | j
    · show q_v _ (q_f 3 9) (.int 0); exact q_vi ff_3_9 rl_0 (by decide)
    rcases j with _ | j
    · show q_v _ (q_f 3 10) (.int 0); exact q_vi ff_3_10 rl_0 (by decide)
    rcases j with _ | j
    · show q_v _ (q_f 3 11) (.null); exact q_vn ff_3_11
    rcases j with _ | j
    · show q_v _ (q_f 3 12) (.int 0); exact q_vi ff_3_12 rl_0 (by decide)
    rcases j with _ | j
    · show q_v _ (q_f 3 13) (.int 0); exact q_vi ff_3_13 rl_0 (by decide)
    rcases j with _ | j
    · show q_v _ (q_f 3 14) (.int 0); exact q_vi ff_3_14 rl_0 (by decide)
    rcases j with _ | j
    · show q_v _ (q_f 3 15) (.int 0); exact q_vi ff_3_15 rl_0 (by decide)
    exact absurd hj (by show ¬ _ < 16; omega)
  refine q_retype A64.1 (by decide) ?_
  exact q_vret hG hE dX3_init_104 ⟨EX, ⟨⟨I101.made (by decide) A64.1 HF, q_tu_new, fun b x hb h => by rw [q_tu_ne hb]; exact FR b x hb h, fun b n h => Classical.byCases (fun e : b = a0 => by rw [e, q_tu_new] at h; cases h) (fun e => by rw [q_tu_ne e] at h; exact N3 b n h)⟩, h23, h32, h40, h48, h56, ⟨(by rw [F101]; rfl), (by rw [F101]; rfl), (by rw [F101]; rfl), (by rw [F101]; rfl), (by rw [F101]; rfl)⟩, ⟨N023, N032, N040, N048, N056⟩, (by rw [F101]; rfl), (by rw [F101]; rfl), (by rw [F101]; rfl)⟩⟩
theorem dX4_init_0 : decode cX4_init 0 = .ok (.aload_n 0, 1) := by decide +kernel
theorem dX4_init_1 : decode cX4_init 1 = .ok (.invokespecial 3, 3) := by decide +kernel
theorem dX4_init_4 : decode cX4_init 4 = .ok (.aload_n 0, 1) := by decide +kernel
theorem dX4_init_5 : decode cX4_init 5 = .ok (.getstatic 9, 3) := by decide +kernel
theorem dX4_init_8 : decode cX4_init 8 = .ok (.putfield 13, 3) := by decide +kernel
theorem dX4_init_11 : decode cX4_init 11 = .ok (.aload_n 0, 1) := by decide +kernel
theorem dX4_init_12 : decode cX4_init 12 = .ok (.iconst 0, 1) := by decide +kernel
theorem dX4_init_13 : decode cX4_init 13 = .ok (.putfield 18, 3) := by decide +kernel
theorem dX4_init_16 : decode cX4_init 16 = .ok (.aload_n 0, 1) := by decide +kernel
theorem dX4_init_17 : decode cX4_init 17 = .ok (.iconst 0, 1) := by decide +kernel
theorem dX4_init_18 : decode cX4_init 18 = .ok (.putfield 22, 3) := by decide +kernel
theorem dX4_init_21 : decode cX4_init 21 = .ok (.aload_n 0, 1) := by decide +kernel
theorem dX4_init_22 : decode cX4_init 22 = .ok (.iconst 0, 1) := by decide +kernel
theorem dX4_init_23 : decode cX4_init 23 = .ok (.putfield 25, 3) := by decide +kernel
theorem dX4_init_26 : decode cX4_init 26 = .ok (.aload_n 0, 1) := by decide +kernel
theorem dX4_init_27 : decode cX4_init 27 = .ok (.new 28, 3) := by decide +kernel
theorem dX4_init_30 : decode cX4_init 30 = .ok (.dup, 1) := by decide +kernel
theorem dX4_init_31 : decode cX4_init 31 = .ok (.invokespecial 30, 3) := by decide +kernel
theorem dX4_init_34 : decode cX4_init 34 = .ok (.putfield 31, 3) := by decide +kernel
theorem dX4_init_37 : decode cX4_init 37 = .ok (.return_, 1) := by decide +kernel
set_option maxRecDepth 100000 in
set_option maxHeartbeats 4000000 in
theorem c_X4_init {l : Launch} {D : q_D} (τ : q_T) (σ : q_V) (a0 : Nat) (hI : q_I τ σ) (tA0 : τ a0 = some (4, 0)) : q_CZ l D yX4_init cX4_init 1 none 2 40 7 576 τ σ [.ref a0] q_ev (fun _ τ1 σ1 => (∀ (b : Nat) (x : Nat × Nat), b ≠ a0 → τ b = some x → ∀ i : Nat, fx_N σ1 b i = fx_N σ b i) ∧ q_X1 4 a0 τ σ τ1 σ1) := by
  refine q_metZ rfl (Nat.le_of_ble_eq_true rfl) (fun X hG hE hnm hZ => ?_)
  show q_O X 0 0 τ σ 0 [(0, .ref a0)] []
  refine q_aload_n (pc := 0) hG dX4_init_0 0 rfl ?_
  refine q_oin (pc := 1) hG w41 w22 w23 dX4_init_1 ⟨by decide, by decide⟩ (by decide) ?_
  refine q_aload_n (pc := 4) hG dX4_init_4 0 rfl ?_
  refine q_notext (pc := 5) hG hZ nw_3 dX4_init_5 (fun t5 => ?_)
  refine q_putV (pc := 8) hG fl_X4_13 dX4_init_8 tA0 rfl rfl ?_
  obtain ⟨σ8, es8⟩ : ∃ t : q_V, t = q_up σ a0 0 (.ref t5) := ⟨_, rfl⟩
  rw [← es8]
  have I8 : q_I τ σ8 := by rw [es8]; exact hI.put tA0 (fun hj => absurd (show 0 < 0 from hj) (Nat.not_lt_zero _))
  have F8 : σ8 a0 = updV (σ a0) 0 (.ref t5) := by rw [es8, q_upF]
  have x8 : ∀ b, b ≠ a0 → σ8 b = σ b := by rw [es8]; exact fun b hb => q_up_ne hb
  show q_O X 0 0 τ σ8 11 [(0, .ref a0)] []
  refine q_aload_n (pc := 11) hG dX4_init_11 0 rfl ?_
  refine q_iconst (pc := 12) hG dX4_init_12 ki_0 ?_
  refine q_putV (pc := 13) hG fl_X4_18 dX4_init_13 tA0 rfl rfl ?_
  obtain ⟨σ13, es13⟩ : ∃ t : q_V, t = q_up σ8 a0 1 (.int 0) := ⟨_, rfl⟩
  rw [← es13]
  have I13 : q_I τ σ13 := by rw [es13]; exact I8.put tA0 (fun hj => absurd (show 1 < 0 from hj) (Nat.not_lt_zero _))
  have F13 : σ13 a0 = updV (updV (σ a0) 0 (.ref t5)) 1 (.int 0) := by rw [es13, q_upF, F8]
  have x13 : ∀ b, b ≠ a0 → σ13 b = σ8 b := by rw [es13]; exact fun b hb => q_up_ne hb
  show q_O X 0 0 τ σ13 16 [(0, .ref a0)] []
  refine q_aload_n (pc := 16) hG dX4_init_16 0 rfl ?_
  refine q_iconst (pc := 17) hG dX4_init_17 ki_0 ?_
  refine q_putV (pc := 18) hG fl_X4_22 dX4_init_18 tA0 rfl rfl ?_
  obtain ⟨σ18, es18⟩ : ∃ t : q_V, t = q_up σ13 a0 2 (.int 0) := ⟨_, rfl⟩
  rw [← es18]
  have I18 : q_I τ σ18 := by rw [es18]; exact I13.put tA0 (fun hj => absurd (show 2 < 0 from hj) (Nat.not_lt_zero _))
  have F18 : σ18 a0 = updV (updV (updV (σ a0) 0 (.ref t5)) 1 (.int 0)) 2 (.int 0) := by rw [es18, q_upF, F13]
  have x18 : ∀ b, b ≠ a0 → σ18 b = σ13 b := by rw [es18]; exact fun b hb => q_up_ne hb
  show q_O X 0 0 τ σ18 21 [(0, .ref a0)] []
  refine q_aload_n (pc := 21) hG dX4_init_21 0 rfl ?_
  refine q_iconst (pc := 22) hG dX4_init_22 ki_0 ?_
  refine q_putV (pc := 23) hG fl_X4_25 dX4_init_23 tA0 rfl rfl ?_
  obtain ⟨σ23, es23⟩ : ∃ t : q_V, t = q_up σ18 a0 3 (.int 0) := ⟨_, rfl⟩
  rw [← es23]
  have I23 : q_I τ σ23 := by rw [es23]; exact I18.put tA0 (fun hj => absurd (show 3 < 0 from hj) (Nat.not_lt_zero _))
  have F23 : σ23 a0 = updV (updV (updV (updV (σ a0) 0 (.ref t5)) 1 (.int 0)) 2 (.int 0)) 3 (.int 0) := by rw [es23, q_upF, F18]
  have x23 : ∀ b, b ≠ a0 → σ23 b = σ18 b := by rw [es23]; exact fun b hb => q_up_ne hb
  show q_O X 0 0 τ σ23 26 [(0, .ref a0)] []
  refine q_aload_n (pc := 26) hG dX4_init_26 0 rfl ?_
  refine q_newO (pc := 27) hG kl_3 w42 w43 w4 dX4_init_27 ⟨by decide, by decide⟩ (fun h27 n27 => ?_)
  obtain ⟨τ27, et27⟩ : ∃ t : q_T, t = q_tu τ h27 (3, 0) := ⟨_, rfl⟩
  obtain ⟨σ27, es27⟩ : ∃ t : q_V, t = q_vu σ23 h27 (fun j => defaultValue (tyX3 j)) := ⟨_, rfl⟩
  rw [← et27, ← es27]
  have x27 : q_ex τ σ23 τ27 σ27 := by rw [et27, es27]; exact q_ex.mk n27 (Or.inl (by decide))
  have T27 : τ27 h27 = some (3, 0) := by rw [et27]; exact q_tu_new
  have z27 : σ27 h27 = (fun j => defaultValue (tyX3 j)) := by rw [es27]; exact q_vu_new
  have I27 : q_I τ27 σ27 := by rw [et27, es27]; exact q_I.mk I23 n27 (fun j hj => absurd (show j < 0 from hj) (Nat.not_lt_zero j))
  have A27 := x27.1 a0 _ tA0
  have F27 : σ27 a0 = updV (updV (updV (updV (σ a0) 0 (.ref t5)) 1 (.int 0)) 2 (.int 0)) 3 (.int 0) := A27.2.trans F23
  show q_O X 1 16 τ27 σ27 30 [(0, .ref a0)] [.ref h27, .ref a0]
  refine q_dup (pc := 30) hG dX4_init_30 rfl ?_
  refine q_callIN (pc := 31) (rest := [.ref h27, .ref a0]) [] hG (c_X3_init τ27 σ27 h27 I27 T27) my_X3_init ⟨rfl, w44⟩ nw_4 dX4_init_31 rfl rfl (Nat.le_of_ble_eq_true rfl) ⟨by decide, by decide, by decide, by decide⟩ (fun _ τ31 σ31 P31 => ?_)
  obtain ⟨E31, P31⟩ := P31
  obtain ⟨P31, Q31⟩ := P31
  have A31 := P31.2.2.1 a0 _ (q_neT A27.1 T27 (by decide)) A27.1
  have F31 : σ31 a0 = updV (updV (updV (updV (σ a0) 0 (.ref t5)) 1 (.int 0)) 2 (.int 0)) 3 (.int 0) := (A31.2.1 (Or.inr (Or.inl rfl))).trans F27
  show q_O X 7 576 τ31 σ31 34 [(0, .ref a0)] [.ref h27, .ref a0]
  refine q_putV (pc := 34) hG fl_X4_31 dX4_init_34 A31.1 rfl rfl ?_
  obtain ⟨σ34, es34⟩ : ∃ t : q_V, t = q_up σ31 a0 4 (.ref h27) := ⟨_, rfl⟩
  rw [← es34]
  have I34 : q_I τ31 σ34 := by rw [es34]; exact P31.1.put A31.1 (fun hj => absurd (show 4 < 0 from hj) (Nat.not_lt_zero _))
  have F34 : σ34 a0 = updV (updV (updV (updV (updV (σ a0) 0 (.ref t5)) 1 (.int 0)) 2 (.int 0)) 3 (.int 0)) 4 (.ref h27) := by rw [es34, q_upF, F31]
  have x34 : ∀ b, b ≠ a0 → σ34 b = σ31 b := by rw [es34]; exact fun b hb => q_up_ne hb
  show q_O X 7 576 τ31 σ34 37 [(0, .ref a0)] []
  have FR : ∀ (b : Nat) (x : Nat × Nat), b ≠ a0 → τ b = some x → τ31 b = some x ∧ (x = (9, 0) ∨ x = (4, 0) ∨ x = (118, 64) ∨ x = (4, 1) ∨ x = (3, 1) → σ34 b = σ b) ∧ (x = (6, 1) → ∀ j, j < 4 → σ34 b j = σ b j) := by
    intro b x ba hb
    obtain ⟨y27, v27⟩ := x27.1 b x hb
    have w27 : b ≠ h27 := fun e => by rw [e, n27] at hb; cases hb
    obtain ⟨y31, v31⟩ := P31.2.2.1 b x w27 y27
    refine ⟨y31, fun hx => ?_, fun hx => ?_⟩
    · skip
      have u0 : σ b = σ b := rfl
      have u8 := (x8 b ba).trans u0
      have u13 := (x13 b ba).trans u8
      have u18 := (x18 b ba).trans u13
      have u23 := (x23 b ba).trans u18
      have u27 := v27.trans u23
      have u31 := (v31.1 hx).trans u27
      have u34 := (x34 b ba).trans u31
      exact u34
    · intro j hj
      have u0 : σ b j = σ b j := rfl
      have u8 := (congrFun (x8 b ba) j).trans u0
      have u13 := (congrFun (x13 b ba) j).trans u8
      have u18 := (congrFun (x18 b ba) j).trans u13
      have u23 := (congrFun (x23 b ba) j).trans u18
      have u27 := (congrFun v27 j).trans u23
      have u31 := (v31.2 hx j hj).trans u27
      have u34 := (congrFun (x34 b ba) j).trans u31
      exact u34
  have EX : ∀ (b : Nat) (x : Nat × Nat), b ≠ a0 → τ b = some x → ∀ i : Nat, fx_N σ34 b i = fx_N σ b i := by
    intro b x ba hb i
    have e0 : fx_N σ b i = fx_N σ b i := rfl
    have e8 := (congrArg fx_num (congrFun (x8 b ba) i)).trans e0
    have e13 := (congrArg fx_num (congrFun (x13 b ba) i)).trans e8
    have e18 := (congrArg fx_num (congrFun (x18 b ba) i)).trans e13
    have e23 := (congrArg fx_num (congrFun (x23 b ba) i)).trans e18
    obtain ⟨y27, v27⟩ := x27.1 b x hb
    have w27 : b ≠ h27 := fun e => by rw [e, n27] at hb; cases hb
    have e27 := (congrArg fx_num (congrFun v27 i)).trans e23
    have e31 := (E31 b x w27 y27 i).trans e27
    obtain ⟨y31, -⟩ := P31.2.2.1 b x w27 y27
    have e34 := (congrArg fx_num (congrFun (x34 b ba) i)).trans e31
    exact e34
  have N3 : ∀ b n : Nat, τ31 b = some (103, n) → τ b = some (103, n) := by
    intro b n hb
    have k31 := P31.2.2.2 b n hb
    have k27 := x27.2 b n k31
    exact k27
  have HF : ∀ j, j < q_nf 4 → q_v (q_tu τ31 a0 (4, 1)) (q_f 4 j) (σ34 a0 j) := by
    rw [F34]
    intro j hj
    rcases j with _ | j
    · show q_v _ (q_f 4 0) (.ref t5); exact q_va ff_4_0
    rcases j with _ | j
    · show q_v _ (q_f 4 1) (.int 0); exact q_vi ff_4_1 rl_0 (by decide)
    rcases j with _ | j
    · show q_v _ (q_f 4 2) (.int 0); exact q_vi ff_4_2 rl_0 (by decide)
    rcases j with _ | j
    · show q_v _ (q_f 4 3) (.int 0); exact q_vi ff_4_3 rl_0 (by decide)
    rcases j with _ | j
    · show q_v _ (q_f 4 4) (.ref h27); exact q_vr (k := 3) (n := 1) ff_4_4 ((q_tu_ne (q_neT P31.2.1 A31.1 (by decide))).trans P31.2.1) (by decide)
    exact absurd hj (by show ¬ _ < 5; omega)
  refine q_retype A31.1 (by decide) ?_
  exact q_vret hG hE dX4_init_37 ⟨EX, ⟨I34.made (by decide) A31.1 HF, q_tu_new, fun b x hb h => by rw [q_tu_ne hb]; exact FR b x hb h, fun b n h => Classical.byCases (fun e : b = a0 => by rw [e, q_tu_new] at h; cases h) (fun e => by rw [q_tu_ne e] at h; exact N3 b n h)⟩⟩
theorem dX6_init_0 : decode cX6_init 0 = .ok (.aload_n 0, 1) := by decide +kernel
theorem dX6_init_1 : decode cX6_init 1 = .ok (.invokespecial 3, 3) := by decide +kernel
theorem dX6_init_4 : decode cX6_init 4 = .ok (.aload_n 0, 1) := by decide +kernel
theorem dX6_init_5 : decode cX6_init 5 = .ok (.bipush 64, 2) := by decide +kernel
theorem dX6_init_7 : decode cX6_init 7 = .ok (.newarray .int, 2) := by decide +kernel
theorem dX6_init_9 : decode cX6_init 9 = .ok (.putfield 9, 3) := by decide +kernel
theorem dX6_init_12 : decode cX6_init 12 = .ok (.aload_n 0, 1) := by decide +kernel
theorem dX6_init_13 : decode cX6_init 13 = .ok (.bipush 64, 2) := by decide +kernel
theorem dX6_init_15 : decode cX6_init 15 = .ok (.newarray .int, 2) := by decide +kernel
theorem dX6_init_17 : decode cX6_init 17 = .ok (.putfield 15, 3) := by decide +kernel
theorem dX6_init_20 : decode cX6_init 20 = .ok (.aload_n 0, 1) := by decide +kernel
theorem dX6_init_21 : decode cX6_init 21 = .ok (.iconst 2, 1) := by decide +kernel
theorem dX6_init_22 : decode cX6_init 22 = .ok (.newarray .int, 2) := by decide +kernel
theorem dX6_init_24 : decode cX6_init 24 = .ok (.putfield 18, 3) := by decide +kernel
theorem dX6_init_27 : decode cX6_init 27 = .ok (.aload_n 0, 1) := by decide +kernel
theorem dX6_init_28 : decode cX6_init 28 = .ok (.iconst 0, 1) := by decide +kernel
theorem dX6_init_29 : decode cX6_init 29 = .ok (.putfield 21, 3) := by decide +kernel
theorem dX6_init_32 : decode cX6_init 32 = .ok (.aload_n 0, 1) := by decide +kernel
theorem dX6_init_33 : decode cX6_init 33 = .ok (.iconst 0, 1) := by decide +kernel
theorem dX6_init_34 : decode cX6_init 34 = .ok (.putfield 25, 3) := by decide +kernel
theorem dX6_init_37 : decode cX6_init 37 = .ok (.aload_n 0, 1) := by decide +kernel
theorem dX6_init_38 : decode cX6_init 38 = .ok (.iconst 0, 1) := by decide +kernel
theorem dX6_init_39 : decode cX6_init 39 = .ok (.putfield 28, 3) := by decide +kernel
theorem dX6_init_42 : decode cX6_init 42 = .ok (.aload_n 0, 1) := by decide +kernel
theorem dX6_init_43 : decode cX6_init 43 = .ok (.iconst (-1), 1) := by decide +kernel
theorem dX6_init_44 : decode cX6_init 44 = .ok (.putfield 31, 3) := by decide +kernel
theorem dX6_init_47 : decode cX6_init 47 = .ok (.return_, 1) := by decide +kernel
set_option maxRecDepth 100000 in
set_option maxHeartbeats 4000000 in
theorem c_X6_init {l : Launch} {D : q_D} (τ : q_T) (σ : q_V) (a0 : Nat) (hI : q_I τ σ) (tA0 : τ a0 = some (5, 0)) : q_C l D yX6_init cX6_init 1 none 1 20 3 130 τ σ [.ref a0] q_ev (fun _ τ1 σ1 => (∀ (b : Nat) (x : Nat × Nat), b ≠ a0 → τ b = some x → ∀ i : Nat, fx_N σ1 b i = fx_N σ b i) ∧ q_X1 5 a0 τ σ τ1 σ1) := by
  refine q_met rfl (Nat.le_of_ble_eq_true rfl) (fun X hG hE hnm => ?_)
  show q_O X 0 0 τ σ 0 [(0, .ref a0)] []
  refine q_aload_n (pc := 0) hG dX6_init_0 0 rfl ?_
  refine q_oin (pc := 1) hG w160 w22 w23 dX6_init_1 ⟨by decide, by decide⟩ (by decide) ?_
  refine q_aload_n (pc := 4) hG dX6_init_4 0 rfl ?_
  refine q_bipush (pc := 5) hG dX6_init_5 kb_64 ?_
  refine q_newA (pc := 7) (k := 129) (N := 64) (aty := .int) hG w36 dX6_init_7 ⟨by decide, by decide, rfl⟩ tl_64 (by decide) ⟨by decide, by decide⟩ (fun h7 n7 => ?_)
  obtain ⟨τ7, et7⟩ : ∃ t : q_T, t = q_tu τ h7 (129, 64) := ⟨_, rfl⟩
  obtain ⟨σ7, es7⟩ : ∃ t : q_V, t = q_vu σ h7 (fun _ => defaultValue (newarray.typeOf .int)) := ⟨_, rfl⟩
  rw [← et7, ← es7]
  have x7 : q_ex τ σ τ7 σ7 := by rw [et7, es7]; exact q_ex.mk n7 (Or.inl (by decide))
  have T7 : τ7 h7 = some (129, 64) := by rw [et7]; exact q_tu_new
  have z7 : σ7 h7 = (fun _ => defaultValue (newarray.typeOf .int)) := by rw [es7]; exact q_vu_new
  have I7 : q_I τ7 σ7 := by rw [et7, es7]; exact q_I.mk hI n7 (fun j _ => (show q_v _ _ (.int 0) from q_vi (ai_129.2.2 j) rl_0 (by decide)))
  have A7 := x7.1 a0 _ tA0
  have F7 : σ7 a0 = σ a0 := A7.2.trans rfl
  show q_O X 1 64 τ7 σ7 9 [(0, .ref a0)] [.ref h7, .ref a0]
  refine q_putF (pc := 9) hG hnm fl_X6_9 (fun r hr => by cases hr; rfl) dX6_init_9 A7.1 rfl rfl ?_
  obtain ⟨σ9, es9⟩ : ∃ t : q_V, t = q_up σ7 a0 0 (.ref h7) := ⟨_, rfl⟩
  rw [← es9]
  have I9 : q_I τ7 σ9 := by rw [es9]; exact I7.put A7.1 (fun hj => absurd (show 0 < 0 from hj) (Nat.not_lt_zero _))
  have F9 : σ9 a0 = updV (σ a0) 0 (.ref h7) := by rw [es9, q_upF, F7]
  have x9 : ∀ b, b ≠ a0 → σ9 b = σ7 b := by rw [es9]; exact fun b hb => q_up_ne hb
  show q_O X 1 64 τ7 σ9 12 [(0, .ref a0)] []
  refine q_aload_n (pc := 12) hG dX6_init_12 0 rfl ?_
  refine q_bipush (pc := 13) hG dX6_init_13 kb_64 ?_
  refine q_newA (pc := 15) (k := 130) (N := 64) (aty := .int) hG w36 dX6_init_15 ⟨by decide, by decide, rfl⟩ tl_64 (by decide) ⟨by decide, by decide⟩ (fun h15 n15 => ?_)
  obtain ⟨τ15, et15⟩ : ∃ t : q_T, t = q_tu τ7 h15 (130, 64) := ⟨_, rfl⟩
  obtain ⟨σ15, es15⟩ : ∃ t : q_V, t = q_vu σ9 h15 (fun _ => defaultValue (newarray.typeOf .int)) := ⟨_, rfl⟩
  rw [← et15, ← es15]
  have x15 : q_ex τ7 σ9 τ15 σ15 := by rw [et15, es15]; exact q_ex.mk n15 (Or.inl (by decide))
  have T15 : τ15 h15 = some (130, 64) := by rw [et15]; exact q_tu_new
  have z15 : σ15 h15 = (fun _ => defaultValue (newarray.typeOf .int)) := by rw [es15]; exact q_vu_new
  have I15 : q_I τ15 σ15 := by rw [et15, es15]; exact q_I.mk I9 n15 (fun j _ => (show q_v _ _ (.int 0) from q_vi (ai_130.2.2 j) rl_0 (by decide)))
  have A15 := x15.1 a0 _ A7.1
  have F15 : σ15 a0 = updV (σ a0) 0 (.ref h7) := A15.2.trans F9
  show q_O X 2 128 τ15 σ15 17 [(0, .ref a0)] [.ref h15, .ref a0]
  refine q_putF (pc := 17) hG hnm fl_X6_15 (fun r hr => by cases hr; rfl) dX6_init_17 A15.1 rfl rfl ?_
  obtain ⟨σ17, es17⟩ : ∃ t : q_V, t = q_up σ15 a0 1 (.ref h15) := ⟨_, rfl⟩
  rw [← es17]
  have I17 : q_I τ15 σ17 := by rw [es17]; exact I15.put A15.1 (fun hj => absurd (show 1 < 0 from hj) (Nat.not_lt_zero _))
  have F17 : σ17 a0 = updV (updV (σ a0) 0 (.ref h7)) 1 (.ref h15) := by rw [es17, q_upF, F15]
  have x17 : ∀ b, b ≠ a0 → σ17 b = σ15 b := by rw [es17]; exact fun b hb => q_up_ne hb
  show q_O X 2 128 τ15 σ17 20 [(0, .ref a0)] []
  refine q_aload_n (pc := 20) hG dX6_init_20 0 rfl ?_
  refine q_iconst (pc := 21) hG dX6_init_21 ki_2 ?_
  refine q_newA (pc := 22) (k := 131) (N := 2) (aty := .int) hG w36 dX6_init_22 ⟨by decide, by decide, rfl⟩ tl_2 (by decide) ⟨by decide, by decide⟩ (fun h22 n22 => ?_)
  obtain ⟨τ22, et22⟩ : ∃ t : q_T, t = q_tu τ15 h22 (131, 2) := ⟨_, rfl⟩
  obtain ⟨σ22, es22⟩ : ∃ t : q_V, t = q_vu σ17 h22 (fun _ => defaultValue (newarray.typeOf .int)) := ⟨_, rfl⟩
  rw [← et22, ← es22]
  have x22 : q_ex τ15 σ17 τ22 σ22 := by rw [et22, es22]; exact q_ex.mk n22 (Or.inl (by decide))
  have T22 : τ22 h22 = some (131, 2) := by rw [et22]; exact q_tu_new
  have z22 : σ22 h22 = (fun _ => defaultValue (newarray.typeOf .int)) := by rw [es22]; exact q_vu_new
  have I22 : q_I τ22 σ22 := by rw [et22, es22]; exact q_I.mk I17 n22 (fun j _ => (show q_v _ _ (.int 0) from q_vi (ai_131.2.2 j) rl_0 (by decide)))
  have A22 := x22.1 a0 _ A15.1
  have F22 : σ22 a0 = updV (updV (σ a0) 0 (.ref h7)) 1 (.ref h15) := A22.2.trans F17
  show q_O X 3 130 τ22 σ22 24 [(0, .ref a0)] [.ref h22, .ref a0]
  refine q_putF (pc := 24) hG hnm fl_X6_18 (fun r hr => by cases hr; rfl) dX6_init_24 A22.1 rfl rfl ?_
  obtain ⟨σ24, es24⟩ : ∃ t : q_V, t = q_up σ22 a0 2 (.ref h22) := ⟨_, rfl⟩
  rw [← es24]
  have I24 : q_I τ22 σ24 := by rw [es24]; exact I22.put A22.1 (fun hj => absurd (show 2 < 0 from hj) (Nat.not_lt_zero _))
  have F24 : σ24 a0 = updV (updV (updV (σ a0) 0 (.ref h7)) 1 (.ref h15)) 2 (.ref h22) := by rw [es24, q_upF, F22]
  have x24 : ∀ b, b ≠ a0 → σ24 b = σ22 b := by rw [es24]; exact fun b hb => q_up_ne hb
  show q_O X 3 130 τ22 σ24 27 [(0, .ref a0)] []
  refine q_aload_n (pc := 27) hG dX6_init_27 0 rfl ?_
  refine q_iconst (pc := 28) hG dX6_init_28 ki_0 ?_
  refine q_putV (pc := 29) hG fl_X6_21 dX6_init_29 A22.1 rfl rfl ?_
  obtain ⟨σ29, es29⟩ : ∃ t : q_V, t = q_up σ24 a0 3 (.int 0) := ⟨_, rfl⟩
  rw [← es29]
  have I29 : q_I τ22 σ29 := by rw [es29]; exact I24.put A22.1 (fun hj => absurd (show 3 < 0 from hj) (Nat.not_lt_zero _))
  have F29 : σ29 a0 = updV (updV (updV (updV (σ a0) 0 (.ref h7)) 1 (.ref h15)) 2 (.ref h22)) 3 (.int 0) := by rw [es29, q_upF, F24]
  have x29 : ∀ b, b ≠ a0 → σ29 b = σ24 b := by rw [es29]; exact fun b hb => q_up_ne hb
  show q_O X 3 130 τ22 σ29 32 [(0, .ref a0)] []
  refine q_aload_n (pc := 32) hG dX6_init_32 0 rfl ?_
  refine q_iconst (pc := 33) hG dX6_init_33 ki_0 ?_
  refine q_putV (pc := 34) hG fl_X6_25 dX6_init_34 A22.1 rfl rfl ?_
  obtain ⟨σ34, es34⟩ : ∃ t : q_V, t = q_up σ29 a0 4 (.int 0) := ⟨_, rfl⟩
  rw [← es34]
  have I34 : q_I τ22 σ34 := by rw [es34]; exact I29.put A22.1 (fun hj => absurd (show 4 < 0 from hj) (Nat.not_lt_zero _))
  have F34 : σ34 a0 = updV (updV (updV (updV (updV (σ a0) 0 (.ref h7)) 1 (.ref h15)) 2 (.ref h22)) 3 (.int 0)) 4 (.int 0) := by rw [es34, q_upF, F29]
  have x34 : ∀ b, b ≠ a0 → σ34 b = σ29 b := by rw [es34]; exact fun b hb => q_up_ne hb
  show q_O X 3 130 τ22 σ34 37 [(0, .ref a0)] []
  refine q_aload_n (pc := 37) hG dX6_init_37 0 rfl ?_
  refine q_iconst (pc := 38) hG dX6_init_38 ki_0 ?_
  refine q_putV (pc := 39) hG fl_X6_28 dX6_init_39 A22.1 rfl rfl ?_
  obtain ⟨σ39, es39⟩ : ∃ t : q_V, t = q_up σ34 a0 5 (.int 0) := ⟨_, rfl⟩
  rw [← es39]
  have I39 : q_I τ22 σ39 := by rw [es39]; exact I34.put A22.1 (fun hj => absurd (show 5 < 0 from hj) (Nat.not_lt_zero _))
  have F39 : σ39 a0 = updV (updV (updV (updV (updV (updV (σ a0) 0 (.ref h7)) 1 (.ref h15)) 2 (.ref h22)) 3 (.int 0)) 4 (.int 0)) 5 (.int 0) := by rw [es39, q_upF, F34]
  have x39 : ∀ b, b ≠ a0 → σ39 b = σ34 b := by rw [es39]; exact fun b hb => q_up_ne hb
  show q_O X 3 130 τ22 σ39 42 [(0, .ref a0)] []
  refine q_aload_n (pc := 42) hG dX6_init_42 0 rfl ?_
  refine q_iconst (pc := 43) hG dX6_init_43 ki_m1 ?_
  refine q_putV (pc := 44) hG fl_X6_31 dX6_init_44 A22.1 rfl rfl ?_
  obtain ⟨σ44, es44⟩ : ∃ t : q_V, t = q_up σ39 a0 6 (.int (-1)) := ⟨_, rfl⟩
  rw [← es44]
  have I44 : q_I τ22 σ44 := by rw [es44]; exact I39.put A22.1 (fun hj => absurd (show 6 < 0 from hj) (Nat.not_lt_zero _))
  have F44 : σ44 a0 = updV (updV (updV (updV (updV (updV (updV (σ a0) 0 (.ref h7)) 1 (.ref h15)) 2 (.ref h22)) 3 (.int 0)) 4 (.int 0)) 5 (.int 0)) 6 (.int (-1)) := by rw [es44, q_upF, F39]
  have x44 : ∀ b, b ≠ a0 → σ44 b = σ39 b := by rw [es44]; exact fun b hb => q_up_ne hb
  show q_O X 3 130 τ22 σ44 47 [(0, .ref a0)] []
  have FR : ∀ (b : Nat) (x : Nat × Nat), b ≠ a0 → τ b = some x → τ22 b = some x ∧ (x = (9, 0) ∨ x = (4, 0) ∨ x = (118, 64) ∨ x = (4, 1) ∨ x = (3, 1) → σ44 b = σ b) ∧ (x = (6, 1) → ∀ j, j < 4 → σ44 b j = σ b j) := by
    intro b x ba hb
    obtain ⟨y7, v7⟩ := x7.1 b x hb
    have w7 : b ≠ h7 := fun e => by rw [e, n7] at hb; cases hb
    obtain ⟨y15, v15⟩ := x15.1 b x y7
    have w15 : b ≠ h15 := fun e => by rw [e, n15] at y7; cases y7
    obtain ⟨y22, v22⟩ := x22.1 b x y15
    have w22 : b ≠ h22 := fun e => by rw [e, n22] at y15; cases y15
    refine ⟨y22, fun hx => ?_, fun hx => ?_⟩
    · skip
      have u0 : σ b = σ b := rfl
      have u7 := v7.trans u0
      have u9 := (x9 b ba).trans u7
      have u15 := v15.trans u9
      have u17 := (x17 b ba).trans u15
      have u22 := v22.trans u17
      have u24 := (x24 b ba).trans u22
      have u29 := (x29 b ba).trans u24
      have u34 := (x34 b ba).trans u29
      have u39 := (x39 b ba).trans u34
      have u44 := (x44 b ba).trans u39
      exact u44
    · intro j hj
      have u0 : σ b j = σ b j := rfl
      have u7 := (congrFun v7 j).trans u0
      have u9 := (congrFun (x9 b ba) j).trans u7
      have u15 := (congrFun v15 j).trans u9
      have u17 := (congrFun (x17 b ba) j).trans u15
      have u22 := (congrFun v22 j).trans u17
      have u24 := (congrFun (x24 b ba) j).trans u22
      have u29 := (congrFun (x29 b ba) j).trans u24
      have u34 := (congrFun (x34 b ba) j).trans u29
      have u39 := (congrFun (x39 b ba) j).trans u34
      have u44 := (congrFun (x44 b ba) j).trans u39
      exact u44
  have EX : ∀ (b : Nat) (x : Nat × Nat), b ≠ a0 → τ b = some x → ∀ i : Nat, fx_N σ44 b i = fx_N σ b i := by
    intro b x ba hb i
    have e0 : fx_N σ b i = fx_N σ b i := rfl
    obtain ⟨y7, v7⟩ := x7.1 b x hb
    have w7 : b ≠ h7 := fun e => by rw [e, n7] at hb; cases hb
    have e7 := (congrArg fx_num (congrFun v7 i)).trans e0
    have e9 := (congrArg fx_num (congrFun (x9 b ba) i)).trans e7
    obtain ⟨y15, v15⟩ := x15.1 b x y7
    have w15 : b ≠ h15 := fun e => by rw [e, n15] at y7; cases y7
    have e15 := (congrArg fx_num (congrFun v15 i)).trans e9
    have e17 := (congrArg fx_num (congrFun (x17 b ba) i)).trans e15
    obtain ⟨y22, v22⟩ := x22.1 b x y15
    have w22 : b ≠ h22 := fun e => by rw [e, n22] at y15; cases y15
    have e22 := (congrArg fx_num (congrFun v22 i)).trans e17
    have e24 := (congrArg fx_num (congrFun (x24 b ba) i)).trans e22
    have e29 := (congrArg fx_num (congrFun (x29 b ba) i)).trans e24
    have e34 := (congrArg fx_num (congrFun (x34 b ba) i)).trans e29
    have e39 := (congrArg fx_num (congrFun (x39 b ba) i)).trans e34
    have e44 := (congrArg fx_num (congrFun (x44 b ba) i)).trans e39
    exact e44
  have N3 : ∀ b n : Nat, τ22 b = some (103, n) → τ b = some (103, n) := by
    intro b n hb
    have k22 := x22.2 b n hb
    have k15 := x15.2 b n k22
    have k7 := x7.2 b n k15
    exact k7
  have HF : ∀ j, j < q_nf 5 → q_v (q_tu τ22 a0 (5, 1)) (q_f 5 j) (σ44 a0 j) := by
    rw [F44]
    intro j hj
    rcases j with _ | j
    · show q_v _ (q_f 5 0) (.ref h7); exact q_vr (k := 129) (n := 64) ff_5_0 ((q_tu_ne (q_neT (x22.1 h7 _ (x15.1 h7 _ T7).1).1 A22.1 (by decide))).trans (x22.1 h7 _ (x15.1 h7 _ T7).1).1) (by decide)
    rcases j with _ | j
    · show q_v _ (q_f 5 1) (.ref h15); exact q_vr (k := 130) (n := 64) ff_5_1 ((q_tu_ne (q_neT (x22.1 h15 _ T15).1 A22.1 (by decide))).trans (x22.1 h15 _ T15).1) (by decide)
    rcases j with _ | j
    · show q_v _ (q_f 5 2) (.ref h22); exact q_vr (k := 131) (n := 2) ff_5_2 ((q_tu_ne (q_neT T22 A22.1 (by decide))).trans T22) (by decide)
    rcases j with _ | j
    · show q_v _ (q_f 5 3) (.int 0); exact q_vi ff_5_3 rl_0 (by decide)
    rcases j with _ | j
    · show q_v _ (q_f 5 4) (.int 0); exact q_vi ff_5_4 rl_0 (by decide)
    rcases j with _ | j
    · show q_v _ (q_f 5 5) (.int 0); exact q_vi ff_5_5 rl_0 (by decide)
    rcases j with _ | j
    · show q_v _ (q_f 5 6) (.int (-1)); exact q_vi ff_5_6 rl_m1 (by decide)
    exact absurd hj (by show ¬ _ < 7; omega)
  refine q_retype A22.1 (by decide) ?_
  exact q_vret hG hE dX6_init_47 ⟨EX, ⟨I44.made (by decide) A22.1 HF, q_tu_new, fun b x hb h => by rw [q_tu_ne hb]; exact FR b x hb h, fun b n h => Classical.byCases (fun e : b = a0 => by rw [e, q_tu_new] at h; cases h) (fun e => by rw [q_tu_ne e] at h; exact N3 b n h)⟩⟩
theorem dX8_init_0 : decode cX8_init 0 = .ok (.aload_n 0, 1) := by decide +kernel
theorem dX8_init_1 : decode cX8_init 1 = .ok (.invokespecial 3, 3) := by decide +kernel
theorem dX8_init_4 : decode cX8_init 4 = .ok (.aload_n 0, 1) := by decide +kernel
theorem dX8_init_5 : decode cX8_init 5 = .ok (.bipush 64, 2) := by decide +kernel
theorem dX8_init_7 : decode cX8_init 7 = .ok (.newarray .int, 2) := by decide +kernel
theorem dX8_init_9 : decode cX8_init 9 = .ok (.putfield 9, 3) := by decide +kernel
theorem dX8_init_12 : decode cX8_init 12 = .ok (.aload_n 0, 1) := by decide +kernel
theorem dX8_init_13 : decode cX8_init 13 = .ok (.getstatic 15, 3) := by decide +kernel
theorem dX8_init_16 : decode cX8_init 16 = .ok (.putfield 18, 3) := by decide +kernel
theorem dX8_init_19 : decode cX8_init 19 = .ok (.aload_n 0, 1) := by decide +kernel
theorem dX8_init_20 : decode cX8_init 20 = .ok (.iconst 0, 1) := by decide +kernel
theorem dX8_init_21 : decode cX8_init 21 = .ok (.putfield 21, 3) := by decide +kernel
theorem dX8_init_24 : decode cX8_init 24 = .ok (.aload_n 0, 1) := by decide +kernel
theorem dX8_init_25 : decode cX8_init 25 = .ok (.iconst 0, 1) := by decide +kernel
theorem dX8_init_26 : decode cX8_init 26 = .ok (.putfield 25, 3) := by decide +kernel
theorem dX8_init_29 : decode cX8_init 29 = .ok (.aload_n 0, 1) := by decide +kernel
theorem dX8_init_30 : decode cX8_init 30 = .ok (.iconst 0, 1) := by decide +kernel
theorem dX8_init_31 : decode cX8_init 31 = .ok (.putfield 28, 3) := by decide +kernel
theorem dX8_init_34 : decode cX8_init 34 = .ok (.aload_n 0, 1) := by decide +kernel
theorem dX8_init_35 : decode cX8_init 35 = .ok (.iconst 0, 1) := by decide +kernel
theorem dX8_init_36 : decode cX8_init 36 = .ok (.putfield 31, 3) := by decide +kernel
theorem dX8_init_39 : decode cX8_init 39 = .ok (.return_, 1) := by decide +kernel
set_option maxRecDepth 100000 in
set_option maxHeartbeats 4000000 in
theorem c_X8_init {l : Launch} {D : q_D} (τ : q_T) (σ : q_V) (a0 : Nat) (hI : q_I τ σ) (tA0 : τ a0 = some (7, 0)) : q_CZ l D yX8_init cX8_init 1 none 1 20 1 64 τ σ [.ref a0] q_ev (fun _ τ1 σ1 => (∀ (b : Nat) (x : Nat × Nat), b ≠ a0 → τ b = some x → ∀ i : Nat, fx_N σ1 b i = fx_N σ b i) ∧ q_X1 7 a0 τ σ τ1 σ1) := by
  refine q_metZ rfl (Nat.le_of_ble_eq_true rfl) (fun X hG hE hnm hZ => ?_)
  show q_O X 0 0 τ σ 0 [(0, .ref a0)] []
  refine q_aload_n (pc := 0) hG dX8_init_0 0 rfl ?_
  refine q_oin (pc := 1) hG w28 w22 w23 dX8_init_1 ⟨by decide, by decide⟩ (by decide) ?_
  refine q_aload_n (pc := 4) hG dX8_init_4 0 rfl ?_
  refine q_bipush (pc := 5) hG dX8_init_5 kb_64 ?_
  refine q_newA (pc := 7) (k := 111) (N := 64) (aty := .int) hG w36 dX8_init_7 ⟨by decide, by decide, rfl⟩ tl_64 (by decide) ⟨by decide, by decide⟩ (fun h7 n7 => ?_)
  obtain ⟨τ7, et7⟩ : ∃ t : q_T, t = q_tu τ h7 (111, 64) := ⟨_, rfl⟩
  obtain ⟨σ7, es7⟩ : ∃ t : q_V, t = q_vu σ h7 (fun _ => defaultValue (newarray.typeOf .int)) := ⟨_, rfl⟩
  rw [← et7, ← es7]
  have x7 : q_ex τ σ τ7 σ7 := by rw [et7, es7]; exact q_ex.mk n7 (Or.inl (by decide))
  have T7 : τ7 h7 = some (111, 64) := by rw [et7]; exact q_tu_new
  have z7 : σ7 h7 = (fun _ => defaultValue (newarray.typeOf .int)) := by rw [es7]; exact q_vu_new
  have I7 : q_I τ7 σ7 := by rw [et7, es7]; exact q_I.mk hI n7 (fun j _ => (show q_v _ _ (.int 0) from q_vi (ai_111.2.2 j) rl_0 (by decide)))
  have A7 := x7.1 a0 _ tA0
  have F7 : σ7 a0 = σ a0 := A7.2.trans rfl
  show q_O X 1 64 τ7 σ7 9 [(0, .ref a0)] [.ref h7, .ref a0]
  refine q_putF (pc := 9) hG hnm fl_X8_9 (fun r hr => by cases hr; rfl) dX8_init_9 A7.1 rfl rfl ?_
  obtain ⟨σ9, es9⟩ : ∃ t : q_V, t = q_up σ7 a0 0 (.ref h7) := ⟨_, rfl⟩
  rw [← es9]
  have I9 : q_I τ7 σ9 := by rw [es9]; exact I7.put A7.1 (fun hj => absurd (show 0 < 0 from hj) (Nat.not_lt_zero _))
  have F9 : σ9 a0 = updV (σ a0) 0 (.ref h7) := by rw [es9, q_upF, F7]
  have x9 : ∀ b, b ≠ a0 → σ9 b = σ7 b := by rw [es9]; exact fun b hb => q_up_ne hb
  show q_O X 1 64 τ7 σ9 12 [(0, .ref a0)] []
  refine q_aload_n (pc := 12) hG dX8_init_12 0 rfl ?_
  refine q_notext (pc := 13) hG hZ nw_1 dX8_init_13 (fun t13 => ?_)
  refine q_putV (pc := 16) hG fl_X8_18 dX8_init_16 A7.1 rfl rfl ?_
  obtain ⟨σ16, es16⟩ : ∃ t : q_V, t = q_up σ9 a0 1 (.ref t13) := ⟨_, rfl⟩
  rw [← es16]
  have I16 : q_I τ7 σ16 := by rw [es16]; exact I9.put A7.1 (fun hj => absurd (show 1 < 0 from hj) (Nat.not_lt_zero _))
  have F16 : σ16 a0 = updV (updV (σ a0) 0 (.ref h7)) 1 (.ref t13) := by rw [es16, q_upF, F9]
  have x16 : ∀ b, b ≠ a0 → σ16 b = σ9 b := by rw [es16]; exact fun b hb => q_up_ne hb
  show q_O X 1 64 τ7 σ16 19 [(0, .ref a0)] []
  refine q_aload_n (pc := 19) hG dX8_init_19 0 rfl ?_
  refine q_iconst (pc := 20) hG dX8_init_20 ki_0 ?_
  refine q_putV (pc := 21) hG fl_X8_21 dX8_init_21 A7.1 rfl rfl ?_
  obtain ⟨σ21, es21⟩ : ∃ t : q_V, t = q_up σ16 a0 2 (.int 0) := ⟨_, rfl⟩
  rw [← es21]
  have I21 : q_I τ7 σ21 := by rw [es21]; exact I16.put A7.1 (fun hj => absurd (show 2 < 0 from hj) (Nat.not_lt_zero _))
  have F21 : σ21 a0 = updV (updV (updV (σ a0) 0 (.ref h7)) 1 (.ref t13)) 2 (.int 0) := by rw [es21, q_upF, F16]
  have x21 : ∀ b, b ≠ a0 → σ21 b = σ16 b := by rw [es21]; exact fun b hb => q_up_ne hb
  show q_O X 1 64 τ7 σ21 24 [(0, .ref a0)] []
  refine q_aload_n (pc := 24) hG dX8_init_24 0 rfl ?_
  refine q_iconst (pc := 25) hG dX8_init_25 ki_0 ?_
  refine q_putV (pc := 26) hG fl_X8_25 dX8_init_26 A7.1 rfl rfl ?_
  obtain ⟨σ26, es26⟩ : ∃ t : q_V, t = q_up σ21 a0 3 (.int 0) := ⟨_, rfl⟩
  rw [← es26]
  have I26 : q_I τ7 σ26 := by rw [es26]; exact I21.put A7.1 (fun hj => absurd (show 3 < 0 from hj) (Nat.not_lt_zero _))
  have F26 : σ26 a0 = updV (updV (updV (updV (σ a0) 0 (.ref h7)) 1 (.ref t13)) 2 (.int 0)) 3 (.int 0) := by rw [es26, q_upF, F21]
  have x26 : ∀ b, b ≠ a0 → σ26 b = σ21 b := by rw [es26]; exact fun b hb => q_up_ne hb
  show q_O X 1 64 τ7 σ26 29 [(0, .ref a0)] []
  refine q_aload_n (pc := 29) hG dX8_init_29 0 rfl ?_
  refine q_iconst (pc := 30) hG dX8_init_30 ki_0 ?_
  refine q_putV (pc := 31) hG fl_X8_28 dX8_init_31 A7.1 rfl rfl ?_
  obtain ⟨σ31, es31⟩ : ∃ t : q_V, t = q_up σ26 a0 4 (.int 0) := ⟨_, rfl⟩
  rw [← es31]
  have I31 : q_I τ7 σ31 := by rw [es31]; exact I26.put A7.1 (fun hj => absurd (show 4 < 0 from hj) (Nat.not_lt_zero _))
  have F31 : σ31 a0 = updV (updV (updV (updV (updV (σ a0) 0 (.ref h7)) 1 (.ref t13)) 2 (.int 0)) 3 (.int 0)) 4 (.int 0) := by rw [es31, q_upF, F26]
  have x31 : ∀ b, b ≠ a0 → σ31 b = σ26 b := by rw [es31]; exact fun b hb => q_up_ne hb
  show q_O X 1 64 τ7 σ31 34 [(0, .ref a0)] []
  refine q_aload_n (pc := 34) hG dX8_init_34 0 rfl ?_
  refine q_iconst (pc := 35) hG dX8_init_35 ki_0 ?_
  refine q_putV (pc := 36) hG fl_X8_31 dX8_init_36 A7.1 rfl rfl ?_
  obtain ⟨σ36, es36⟩ : ∃ t : q_V, t = q_up σ31 a0 5 (.int 0) := ⟨_, rfl⟩
  rw [← es36]
  have I36 : q_I τ7 σ36 := by rw [es36]; exact I31.put A7.1 (fun hj => absurd (show 5 < 0 from hj) (Nat.not_lt_zero _))
  have F36 : σ36 a0 = updV (updV (updV (updV (updV (updV (σ a0) 0 (.ref h7)) 1 (.ref t13)) 2 (.int 0)) 3 (.int 0)) 4 (.int 0)) 5 (.int 0) := by rw [es36, q_upF, F31]
  have x36 : ∀ b, b ≠ a0 → σ36 b = σ31 b := by rw [es36]; exact fun b hb => q_up_ne hb
  show q_O X 1 64 τ7 σ36 39 [(0, .ref a0)] []
  have FR : ∀ (b : Nat) (x : Nat × Nat), b ≠ a0 → τ b = some x → τ7 b = some x ∧ (x = (9, 0) ∨ x = (4, 0) ∨ x = (118, 64) ∨ x = (4, 1) ∨ x = (3, 1) → σ36 b = σ b) ∧ (x = (6, 1) → ∀ j, j < 4 → σ36 b j = σ b j) := by
    intro b x ba hb
    obtain ⟨y7, v7⟩ := x7.1 b x hb
    have w7 : b ≠ h7 := fun e => by rw [e, n7] at hb; cases hb
    refine ⟨y7, fun hx => ?_, fun hx => ?_⟩
    · skip
      have u0 : σ b = σ b := rfl
      have u7 := v7.trans u0
      have u9 := (x9 b ba).trans u7
      have u16 := (x16 b ba).trans u9
      have u21 := (x21 b ba).trans u16
      have u26 := (x26 b ba).trans u21
      have u31 := (x31 b ba).trans u26
      have u36 := (x36 b ba).trans u31
      exact u36
    · intro j hj
      have u0 : σ b j = σ b j := rfl
      have u7 := (congrFun v7 j).trans u0
      have u9 := (congrFun (x9 b ba) j).trans u7
      have u16 := (congrFun (x16 b ba) j).trans u9
      have u21 := (congrFun (x21 b ba) j).trans u16
      have u26 := (congrFun (x26 b ba) j).trans u21
      have u31 := (congrFun (x31 b ba) j).trans u26
      have u36 := (congrFun (x36 b ba) j).trans u31
      exact u36
  have EX : ∀ (b : Nat) (x : Nat × Nat), b ≠ a0 → τ b = some x → ∀ i : Nat, fx_N σ36 b i = fx_N σ b i := by
    intro b x ba hb i
    have e0 : fx_N σ b i = fx_N σ b i := rfl
    obtain ⟨y7, v7⟩ := x7.1 b x hb
    have w7 : b ≠ h7 := fun e => by rw [e, n7] at hb; cases hb
    have e7 := (congrArg fx_num (congrFun v7 i)).trans e0
    have e9 := (congrArg fx_num (congrFun (x9 b ba) i)).trans e7
    have e16 := (congrArg fx_num (congrFun (x16 b ba) i)).trans e9
    have e21 := (congrArg fx_num (congrFun (x21 b ba) i)).trans e16
    have e26 := (congrArg fx_num (congrFun (x26 b ba) i)).trans e21
    have e31 := (congrArg fx_num (congrFun (x31 b ba) i)).trans e26
    have e36 := (congrArg fx_num (congrFun (x36 b ba) i)).trans e31
    exact e36
  have N3 : ∀ b n : Nat, τ7 b = some (103, n) → τ b = some (103, n) := by
    intro b n hb
    have k7 := x7.2 b n hb
    exact k7
  have HF : ∀ j, j < q_nf 7 → q_v (q_tu τ7 a0 (7, 1)) (q_f 7 j) (σ36 a0 j) := by
    rw [F36]
    intro j hj
    rcases j with _ | j
    · show q_v _ (q_f 7 0) (.ref h7); exact q_vr (k := 111) (n := 64) ff_7_0 ((q_tu_ne (q_neT T7 A7.1 (by decide))).trans T7) (by decide)
    rcases j with _ | j
    · show q_v _ (q_f 7 1) (.ref t13); exact q_va ff_7_1
    rcases j with _ | j
    · show q_v _ (q_f 7 2) (.int 0); exact q_vi ff_7_2 rl_0 (by decide)
    rcases j with _ | j
    · show q_v _ (q_f 7 3) (.int 0); exact q_vi ff_7_3 rl_0 (by decide)
    rcases j with _ | j
    · show q_v _ (q_f 7 4) (.int 0); exact q_vi ff_7_4 rl_0 (by decide)
    rcases j with _ | j
    · show q_v _ (q_f 7 5) (.int 0); exact q_vi ff_7_5 rl_0 (by decide)
    exact absurd hj (by show ¬ _ < 6; omega)
  refine q_retype A7.1 (by decide) ?_
  exact q_vret hG hE dX8_init_39 ⟨EX, ⟨I36.made (by decide) A7.1 HF, q_tu_new, fun b x hb h => by rw [q_tu_ne hb]; exact FR b x hb h, fun b n h => Classical.byCases (fun e : b = a0 => by rw [e, q_tu_new] at h; cases h) (fun e => by rw [q_tu_ne e] at h; exact N3 b n h)⟩⟩
