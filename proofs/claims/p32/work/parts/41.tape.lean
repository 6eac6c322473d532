/-! laid by wip/p2/build.py -/
theorem dX12_types_0 : decode cX12_types 0 = .ok (.iconst 3, 1) := by decide +kernel
theorem dX12_types_1 : decode cX12_types 1 = .ok (.istore_n 2, 1) := by decide +kernel
theorem dX12_types_2 : decode cX12_types 2 = .ok (.iload_n 2, 1) := by decide +kernel
theorem dX12_types_3 : decode cX12_types 3 = .ok (.ifCond .lt 35, 3) := by decide +kernel
theorem dX12_types_6 : decode cX12_types 6 = .ok (.aload_n 0, 1) := by decide +kernel
theorem dX12_types_7 : decode cX12_types 7 = .ok (.getfield 19, 3) := by decide +kernel
theorem dX12_types_10 : decode cX12_types 10 = .ok (.aload_n 0, 1) := by decide +kernel
theorem dX12_types_11 : decode cX12_types 11 = .ok (.getfield 119, 3) := by decide +kernel
theorem dX12_types_14 : decode cX12_types 14 = .ok (.iload_n 1, 1) := by decide +kernel
theorem dX12_types_15 : decode cX12_types 15 = .ok (.bipush 8, 2) := by decide +kernel
theorem dX12_types_17 : decode cX12_types 17 = .ok (.iload_n 2, 1) := by decide +kernel
theorem dX12_types_18 : decode cX12_types 18 = .ok (.imul, 1) := by decide +kernel
theorem dX12_types_19 : decode cX12_types 19 = .ok (.ishr, 1) := by decide +kernel
theorem dX12_types_20 : decode cX12_types 20 = .ok (.i2b, 1) := by decide +kernel
theorem dX12_types_21 : decode cX12_types 21 = .ok (.bastore, 1) := by decide +kernel
theorem dX12_types_22 : decode cX12_types 22 = .ok (.aload_n 0, 1) := by decide +kernel
theorem dX12_types_23 : decode cX12_types 23 = .ok (.aload_n 0, 1) := by decide +kernel
theorem dX12_types_24 : decode cX12_types 24 = .ok (.getfield 119, 3) := by decide +kernel
theorem dX12_types_27 : decode cX12_types 27 = .ok (.iconst 1, 1) := by decide +kernel
theorem dX12_types_28 : decode cX12_types 28 = .ok (.iadd, 1) := by decide +kernel
theorem dX12_types_29 : decode cX12_types 29 = .ok (.putfield 119, 3) := by decide +kernel
theorem dX12_types_32 : decode cX12_types 32 = .ok (.iinc 2 (-1), 3) := by decide +kernel
theorem dX12_types_35 : decode cX12_types 35 = .ok (.goto (-33), 3) := by decide +kernel
theorem dX12_types_38 : decode cX12_types 38 = .ok (.return_, 1) := by decide +kernel
def md_X12_types : List (Nat × Nat) := [(10, 4), (310, 0)]
set_option maxRecDepth 100000 in
set_option maxHeartbeats 4000000 in
theorem c_X12_types {l : Launch} {D : q_D} (τ : q_T) (σ : q_V) (a0 : Nat) (x1 : Int32) (hI : q_I τ σ) (tA0 : τ a0 = some (10, 1)) (t : Int32) (ht : σ a0 4 = .int t) (rt : q_r t 0 256) : q_Cv l D yX12_types cX12_types 3 none 0 0 τ σ [.ref a0, .int x1] (fun σ1 => q_S md_X12_types τ σ σ1 ∧ (fx_N σ1 = f_X12_types (fx_N σ) a0 x1.toInt) ∧ (∃ t2 : Int32, σ1 a0 4 = .int t2 ∧ t2.toInt = t.toInt + 4)) := by
  refine q_metv rfl (Nat.le_of_ble_eq_true rfl) (fun X hG hE => ?_)
  show q_O X 0 0 τ σ 0 [(0, .ref a0), (1, .int x1)] []
  have hS0 : q_S md_X12_types τ σ σ := q_S.rf hI
  obtain ⟨Fv, hF⟩ : ∃ z, fx_eq z (f_X12_types (fx_N σ) a0 x1.toInt) := ⟨_, fx_rf⟩
  have hF0 := hF
  unfold f_X12_types at hF
  replace hF := fx_I hF ht rfl
  refine q_iconst (pc := 0) hG dX12_types_0 ki_3 ?_
  refine q_istore_n (pc := 1) [(2, .int 3), (0, .ref a0), (1, .int x1)] hG dX12_types_1 (by decide) rfl ?_
  have J2 : ∀ (n2 : Nat) (p2_2 : Int32) (σ2 : q_V) (F2 : Int32), (q_r p2_2 (-1) 3) → (q_S md_X12_types τ σ σ2) → (σ2 a0 4 = .int F2 ∧ q_r F2 0 260) → (F2.toInt = t.toInt + 3 - p2_2.toInt) → (fx_eq Fv (kL_X12_types_2 a0 x1.toInt n2 p2_2.toInt (fx_N σ2) F2.toInt)) → ((p2_2.toInt - (-1)).toNat < n2) → q_O X 0 0 τ σ2 2 [(0, .ref a0), (1, .int x1), (2, .int p2_2)] [] := by
    intro n2
    induction n2 with
    | zero => intro p2_2 σ2 F2 r2_2 hS2 iF2 iR2 hF hm2; exact absurd hm2 (Nat.not_lt_zero _)
    | succ n2 ih2 =>
      intro p2_2 σ2 F2 r2_2 hS2 iF2 iR2 hF hm2
      replace hF := (show fx_eq Fv (kB_X12_types_2 (kL_X12_types_2 a0 x1.toInt n2) a0 x1.toInt p2_2.toInt (fx_N σ2) F2.toInt) from hF)
      unfold kB_X12_types_2 at hF
      refine q_iload_n (pc := 2) hG dX12_types_2 2 rfl ?_
      refine q_if_lt (pc := 3) hG 38 dX12_types_3 rfl ?_ ?_
      · intro c3
        replace hF := fx_lt1 hF rfl rfl c3
        have r_1 := q_zlt r2_2 c3
        exact q_vrt hG hE dX12_types_38 ⟨hS2, (fx_end hF hF0), ⟨F2, iF2.1, (by have o0 := iR2; have o1 := c3; have o2 := iF2.2; have o3 := r_1; have o4 := rt; unfold q_r at o2 o3 o4; omega)⟩⟩
      intro c3
      replace hF := fx_lt2 hF rfl rfl c3
      refine q_aload_n (pc := 6) hG dX12_types_6 0 rfl ?_
      refine q_getR (pc := 7) (k2 := 310) (n2 := 260) hG fl_X12_19 dX12_types_7 hS2.1 tA0 ff_10_3 (fun b7 f7 T7 => ?_)
      replace hF := fx_R hF f7 rfl
      have f_2 := (hS2.2 _ _ _ _ tA0 rfl).symm.trans f7
      refine q_aload_n (pc := 10) hG dX12_types_10 0 rfl ?_
      refine q_getV (pc := 11) (v := .int F2) hG fl_X12_119 dX12_types_11 tA0 iF2.1 ?_
      refine q_iload_n (pc := 14) hG dX12_types_14 1 rfl ?_
      refine q_bipush (pc := 15) hG dX12_types_15 kb_8 ?_
      refine q_iload_n (pc := 17) hG dX12_types_17 2 rfl ?_
      refine q_imul (pc := 18) hG dX12_types_18 (fun v18 e18 => ?_)
      have r_3 := q_zge r2_2 c3
      replace hF := fx_mul hF tl_8 rfl (q_mulN (lo := 0) (hi := 24) e18 rl_8 r_3 (by decide)).1
      refine q_ishr (pc := 19) hG dX12_types_19 (fun v19 e19 => ?_)
      replace hF := fx_B_shr hF rfl rfl e19
      refine q_i2b (pc := 20) hG dX12_types_20 (fun v20 e20 => ?_)
      replace hF := fx_B_i2b hF rfl e20
      have r_4 := (q_mulN (lo := 0) (hi := 24) e18 rl_8 r_3 (by decide)).2
      refine q_bast (pc := 21) hG dX12_types_21 hS2 ai_310 T7 (by have o0 := iR2; have o1 := c3; have o2 := (by have q := (q_mulN (lo := 0) (hi := 24) e18 rl_8 r_3 (by decide)).1; rw [tl_8] at q; exact q); have o3 := iF2.2; have o4 := r_3; have o5 := rt; have o6 := r_4; unfold q_r at o3 o4 o5 o6; omega) rfl (fun s21 u21 w21 => ?_)
      replace hF := fx_PB hF u21 rfl rfl
      refine q_aload_n (pc := 22) hG dX12_types_22 0 rfl ?_
      refine q_aload_n (pc := 23) hG dX12_types_23 0 rfl ?_
      refine q_getV (pc := 24) (v := .int F2) hG fl_X12_119 dX12_types_24 tA0 (by rw [u21]; exact (q_keepK tA0 T7 (by decide)).trans iF2.1) ?_
      refine q_iconst (pc := 27) hG dX12_types_27 ki_1 ?_
      refine q_iadd (pc := 28) hG dX12_types_28 (fun v28 e28 => ?_)
      replace hF := fx_add hF rfl tl_1 (q_addN (lo := 1) (hi := 261) e28 iF2.2 rl_1 (by decide)).1
      have r_5 := (q_addN (lo := 1) (hi := 261) e28 iF2.2 rl_1 (by decide)).2
      refine q_putI (pc := 29) hG fl_X12_119 dX12_types_29 w21 tA0 ff_10_4 (show q_r v28 0 260 from ⟨(by have o0 := (q_addN (lo := 1) (hi := 261) e28 iF2.2 rl_1 (by decide)).1; have o1 := iR2; have o2 := c3; have o3 := (by have q := (q_mulN (lo := 0) (hi := 24) e18 rl_8 r_3 (by decide)).1; rw [tl_8] at q; exact q); have o4 := iF2.2; have o5 := r_3; have o6 := rt; have o7 := r_4; have o8 := r_5; have l9 := tl_1; unfold q_r at o4 o5 o6 o7 o8; omega), (by have o0 := (q_addN (lo := 1) (hi := 261) e28 iF2.2 rl_1 (by decide)).1; have o1 := iR2; have o2 := c3; have o3 := (by have q := (q_mulN (lo := 0) (hi := 24) e18 rl_8 r_3 (by decide)).1; rw [tl_8] at q; exact q); have o4 := iF2.2; have o5 := r_3; have o6 := rt; have o7 := r_4; have o8 := r_5; have l9 := tl_1; unfold q_r at o4 o5 o6 o7 o8; omega)⟩) (by decide) rfl (fun s29 u29 w29 => ?_)
      replace hF := fx_P hF u29 rfl rfl
      have m29 : s29 a0 4 = .int v28 := by rw [u29]; exact q_up_same
      obtain ⟨v32, e32⟩ : ∃ z : Int32, z = p2_2 + Int32.ofInt (-1) := ⟨_, rfl⟩
      have h32 := q_incN (lo := (-1)) (hi := 2) r_3 (by decide) (by decide) e32
      replace hF := fx_add hF rfl rfl h32.1
      refine q_iinc (pc := 32) [(2, .int v32), (0, .ref a0), (1, .int x1)] hG dX12_types_32 2 rfl e32 (by decide) rfl ?_
      refine q_goto (pc := 35) 2 hG dX12_types_35 rfl ?_
      refine q_lv [1, 2, 0] rfl ?_
      exact ih2 v32 s29 v28 (q_r.mono h32.2 (by decide)) w29 ⟨m29, (show q_r v28 0 260 from ⟨(by have o0 := (q_addN (lo := 1) (hi := 261) e28 iF2.2 rl_1 (by decide)).1; have o1 := iR2; have o2 := c3; have o3 := (by have q := (q_mulN (lo := 0) (hi := 24) e18 rl_8 r_3 (by decide)).1; rw [tl_8] at q; exact q); have o4 := h32.1; have o5 := iF2.2; have o6 := r_3; have o7 := rt; have o8 := r_4; have o9 := r_5; have o10 := h32.2; have l11 := tl_1; unfold q_r at o5 o6 o7 o8 o9 o10; omega), (by have o0 := (q_addN (lo := 1) (hi := 261) e28 iF2.2 rl_1 (by decide)).1; have o1 := iR2; have o2 := c3; have o3 := (by have q := (q_mulN (lo := 0) (hi := 24) e18 rl_8 r_3 (by decide)).1; rw [tl_8] at q; exact q); have o4 := h32.1; have o5 := iF2.2; have o6 := r_3; have o7 := rt; have o8 := r_4; have o9 := r_5; have o10 := h32.2; have l11 := tl_1; unfold q_r at o5 o6 o7 o8 o9 o10; omega)⟩)⟩ (by have o0 := iR2; have o1 := c3; have o2 := (by have q := (q_mulN (lo := 0) (hi := 24) e18 rl_8 r_3 (by decide)).1; rw [tl_8] at q; exact q); have o3 := (q_addN (lo := 1) (hi := 261) e28 iF2.2 rl_1 (by decide)).1; have o4 := h32.1; have o5 := iF2.2; have o6 := r_3; have o7 := rt; have o8 := r_4; have o9 := r_5; have o10 := h32.2; have l11 := tl_1; unfold q_r at o5 o6 o7 o8 o9 o10; omega) hF (q_measD hm2 (by have o0 := iR2; have o1 := c3; have o2 := (by have q := (q_mulN (lo := 0) (hi := 24) e18 rl_8 r_3 (by decide)).1; rw [tl_8] at q; exact q); have o3 := (q_addN (lo := 1) (hi := 261) e28 iF2.2 rl_1 (by decide)).1; have o4 := h32.1; have o5 := iF2.2; have o6 := r_3; have o7 := rt; have o8 := r_4; have o9 := r_5; have o10 := h32.2; have l11 := tl_1; unfold q_r at o5 o6 o7 o8 o9 o10; omega) (h32.2).1)
  refine q_lv [1, 2, 0] rfl ?_
  exact J2 (((3 : Int32).toInt - (-1)).toNat + 1) 3 σ t (q_r.mono rl_3 (by decide)) hS0 ⟨ht, (q_r.mono rt (by decide))⟩ (by have o0 := rt; have l1 := tl_3; unfold q_r at o0; omega) (by rw [tl_3]; exact hF) (Nat.lt_succ_self _)
theorem dX12_feed_0 : decode cX12_feed 0 = .ok (.aload_n 0, 1) := by decide +kernel
theorem dX12_feed_1 : decode cX12_feed 1 = .ok (.getfield 119, 3) := by decide +kernel
theorem dX12_feed_4 : decode cX12_feed 4 = .ok (.bipush 20, 2) := by decide +kernel
theorem dX12_feed_6 : decode cX12_feed 6 = .ok (.iadd, 1) := by decide +kernel
theorem dX12_feed_7 : decode cX12_feed 7 = .ok (.sipush 260, 3) := by decide +kernel
theorem dX12_feed_10 : decode cX12_feed 10 = .ok (.if_icmp .le 5, 3) := by decide +kernel
theorem dX12_feed_13 : decode cX12_feed 13 = .ok (.iconst (-1), 1) := by decide +kernel
theorem dX12_feed_14 : decode cX12_feed 14 = .ok (.ireturn, 1) := by decide +kernel
theorem dX12_feed_15 : decode cX12_feed 15 = .ok (.aload_n 0, 1) := by decide +kernel
theorem dX12_feed_16 : decode cX12_feed 16 = .ok (.iload_n 1, 1) := by decide +kernel
theorem dX12_feed_17 : decode cX12_feed 17 = .ok (.invokevirtual 123, 3) := by decide +kernel
theorem dX12_feed_20 : decode cX12_feed 20 = .ok (.aload_n 0, 1) := by decide +kernel
theorem dX12_feed_21 : decode cX12_feed 21 = .ok (.iload_n 2, 1) := by decide +kernel
theorem dX12_feed_22 : decode cX12_feed 22 = .ok (.invokevirtual 123, 3) := by decide +kernel
theorem dX12_feed_25 : decode cX12_feed 25 = .ok (.aload_n 0, 1) := by decide +kernel
theorem dX12_feed_26 : decode cX12_feed 26 = .ok (.iload_n 3, 1) := by decide +kernel
theorem dX12_feed_27 : decode cX12_feed 27 = .ok (.invokevirtual 123, 3) := by decide +kernel
theorem dX12_feed_30 : decode cX12_feed 30 = .ok (.aload_n 0, 1) := by decide +kernel
theorem dX12_feed_31 : decode cX12_feed 31 = .ok (.iload 4, 2) := by decide +kernel
theorem dX12_feed_33 : decode cX12_feed 33 = .ok (.invokevirtual 123, 3) := by decide +kernel
theorem dX12_feed_36 : decode cX12_feed 36 = .ok (.aload_n 0, 1) := by decide +kernel
theorem dX12_feed_37 : decode cX12_feed 37 = .ok (.iload 5, 2) := by decide +kernel
theorem dX12_feed_39 : decode cX12_feed 39 = .ok (.invokevirtual 123, 3) := by decide +kernel
theorem dX12_feed_42 : decode cX12_feed 42 = .ok (.aload_n 0, 1) := by decide +kernel
theorem dX12_feed_43 : decode cX12_feed 43 = .ok (.getfield 119, 3) := by decide +kernel
theorem dX12_feed_46 : decode cX12_feed 46 = .ok (.ireturn, 1) := by decide +kernel
def md_X12_feed : List (Nat × Nat) := [(10, 4), (310, 0)]
set_option maxRecDepth 100000 in
set_option maxHeartbeats 4000000 in
theorem c_X12_feed {l : Launch} {D : q_D} (τ : q_T) (σ : q_V) (a0 : Nat) (x1 : Int32) (x2 : Int32) (x3 : Int32) (x4 : Int32) (x5 : Int32) (hI : q_I τ σ) (tA0 : τ a0 = some (10, 1)) : q_Ci l D yX12_feed cX12_feed 6 (some .int) 1 22 τ σ [.ref a0, .int x1, .int x2, .int x3, .int x4, .int x5] (fun r σ1 => q_S md_X12_feed τ σ σ1 ∧ (q_r r (-1) 280) ∧ ((r.toInt, fx_N σ1) = f_X12_feed (fx_N σ) a0 x1.toInt x2.toInt x3.toInt x4.toInt x5.toInt) ∧ (∀ t : Int32, σ a0 4 = .int t → ∃ z : Int32, σ1 a0 4 = .int z ∧ ((t.toInt ≤ 240 ∧ r.toInt = t.toInt + 20 ∧ z.toInt = t.toInt + 20) ∨ (240 < t.toInt ∧ r.toInt = -1 ∧ z.toInt = t.toInt)))) := by
  refine q_meti rfl (Nat.le_of_ble_eq_true rfl) (fun X hG hE => ?_)
  show q_O X 0 0 τ σ 0 [(0, .ref a0), (1, .int x1), (2, .int x2), (3, .int x3), (4, .int x4), (5, .int x5)] []
  have hS0 : q_S md_X12_feed τ σ σ := q_S.rf hI
  obtain ⟨Fv, hF⟩ : ∃ z, fx_eq z (f_X12_feed (fx_N σ) a0 x1.toInt x2.toInt x3.toInt x4.toInt x5.toInt) := ⟨_, fx_rf⟩
  have hF0 := hF
  unfold f_X12_feed at hF
  obtain ⟨q_1v, q_1f, q_1r⟩ := (hI a0 10 1 tA0 4 (by decide)).int ff_10_4
  replace hF := fx_I hF q_1f rfl
  refine q_aload_n (pc := 0) hG dX12_feed_0 0 rfl ?_
  refine q_getV (pc := 1) (v := .int q_1v) hG fl_X12_119 dX12_feed_1 tA0 q_1f ?_
  refine q_bipush (pc := 4) hG dX12_feed_4 kb_20 ?_
  refine q_iadd (pc := 6) hG dX12_feed_6 (fun v6 e6 => ?_)
  replace hF := fx_add hF rfl tl_20 (q_addN (lo := 20) (hi := 280) e6 q_1r rl_20 (by decide)).1
  refine q_sipush (pc := 7) hG dX12_feed_7 ks_260 ?_
  refine q_icmp_le (pc := 10) hG 15 dX12_feed_10 rfl ?_ ?_
  · intro c10
    have r_2 := (q_addN (lo := 20) (hi := 280) e6 q_1r rl_20 (by decide)).2
    replace hF := fx_lt2 hF tl_260 rfl c10
    refine q_aload_n (pc := 15) hG dX12_feed_15 0 rfl ?_
    refine q_iload_n (pc := 16) hG dX12_feed_16 1 rfl ?_
    have r_3 := q_rle r_2 rl_260 c10
    refine q_cVv (pc := 17) [.int x1] [] hG (c_X12_types τ σ a0 x1 hI tA0 q_1v q_1f (show q_r q_1v 0 256 from ⟨(by have o0 := (q_addN (lo := 20) (hi := 280) e6 q_1r rl_20 (by decide)).1; have o1 := c10; have o2 := q_1r; have o3 := r_3; have l4 := tl_20; have l5 := tl_260; unfold q_r at o2 o3; omega), (by have o0 := (q_addN (lo := 20) (hi := 280) e6 q_1r rl_20 (by decide)).1; have o1 := c10; have o2 := q_1r; have o3 := r_3; have l4 := tl_20; have l5 := tl_260; unfold q_r at o2 o3; omega)⟩)) my_X12_types mv_X12_types w869 dX12_feed_17 tA0 (by decide) rfl rfl (Nat.le_of_ble_eq_true rfl) (by decide) (fun s17 p17 => ?_)
    have w17 := hS0.trans p17.1 rfl
    replace hF := fx_S hF p17.2.1
    obtain ⟨t17, ft17, et17⟩ := p17.2.2
    replace hF := fx_I hF ft17 rfl
    refine q_aload_n (pc := 20) hG dX12_feed_20 0 rfl ?_
    refine q_iload_n (pc := 21) hG dX12_feed_21 2 rfl ?_
    have r_4 := (show q_r t17 4 264 from ⟨by have q := q_1r; unfold q_r at q; omega, by have q := q_1r; unfold q_r at q; omega⟩)
    refine q_cVv (pc := 22) [.int x2] [] hG (c_X12_types τ s17 a0 x2 w17.1 tA0 t17 ft17 (show q_r t17 0 256 from ⟨(by have o0 := et17; have o1 := (q_addN (lo := 20) (hi := 280) e6 q_1r rl_20 (by decide)).1; have o2 := c10; have o3 := q_1r; have o4 := r_4; have o5 := r_3; have l6 := tl_20; have l7 := tl_260; unfold q_r at o3 o4 o5; omega), (by have o0 := et17; have o1 := (q_addN (lo := 20) (hi := 280) e6 q_1r rl_20 (by decide)).1; have o2 := c10; have o3 := q_1r; have o4 := r_4; have o5 := r_3; have l6 := tl_20; have l7 := tl_260; unfold q_r at o3 o4 o5; omega)⟩)) my_X12_types mv_X12_types w869 dX12_feed_22 tA0 (by decide) rfl rfl (Nat.le_of_ble_eq_true rfl) (by decide) (fun s22 p22 => ?_)
    have w22 := w17.trans p22.1 rfl
    replace hF := fx_S hF p22.2.1
    obtain ⟨t22, ft22, et22⟩ := p22.2.2
    replace hF := fx_I hF ft22 rfl
    refine q_aload_n (pc := 25) hG dX12_feed_25 0 rfl ?_
    refine q_iload_n (pc := 26) hG dX12_feed_26 3 rfl ?_
    have r_5 := (show q_r t22 8 268 from ⟨by have q := r_4; unfold q_r at q; omega, by have q := r_4; unfold q_r at q; omega⟩)
    refine q_cVv (pc := 27) [.int x3] [] hG (c_X12_types τ s22 a0 x3 w22.1 tA0 t22 ft22 (show q_r t22 0 256 from ⟨(by have o0 := et22; have o1 := et17; have o2 := (q_addN (lo := 20) (hi := 280) e6 q_1r rl_20 (by decide)).1; have o3 := c10; have o4 := q_1r; have o5 := r_4; have o6 := r_5; have o7 := r_3; have l8 := tl_20; have l9 := tl_260; unfold q_r at o4 o5 o6 o7; omega), (by have o0 := et22; have o1 := et17; have o2 := (q_addN (lo := 20) (hi := 280) e6 q_1r rl_20 (by decide)).1; have o3 := c10; have o4 := q_1r; have o5 := r_4; have o6 := r_5; have o7 := r_3; have l8 := tl_20; have l9 := tl_260; unfold q_r at o4 o5 o6 o7; omega)⟩)) my_X12_types mv_X12_types w869 dX12_feed_27 tA0 (by decide) rfl rfl (Nat.le_of_ble_eq_true rfl) (by decide) (fun s27 p27 => ?_)
    have w27 := w22.trans p27.1 rfl
    replace hF := fx_S hF p27.2.1
    obtain ⟨t27, ft27, et27⟩ := p27.2.2
    replace hF := fx_I hF ft27 rfl
    refine q_aload_n (pc := 30) hG dX12_feed_30 0 rfl ?_
    refine q_iload (pc := 31) hG dX12_feed_31 4 rfl ?_
    have r_6 := (show q_r t27 12 272 from ⟨by have q := r_5; unfold q_r at q; omega, by have q := r_5; unfold q_r at q; omega⟩)
    refine q_cVv (pc := 33) [.int x4] [] hG (c_X12_types τ s27 a0 x4 w27.1 tA0 t27 ft27 (show q_r t27 0 256 from ⟨(by have o0 := et27; have o1 := et22; have o2 := et17; have o3 := (q_addN (lo := 20) (hi := 280) e6 q_1r rl_20 (by decide)).1; have o4 := c10; have o5 := q_1r; have o6 := r_4; have o7 := r_5; have o8 := r_6; have o9 := r_3; have l10 := tl_20; have l11 := tl_260; unfold q_r at o5 o6 o7 o8 o9; omega), (by have o0 := et27; have o1 := et22; have o2 := et17; have o3 := (q_addN (lo := 20) (hi := 280) e6 q_1r rl_20 (by decide)).1; have o4 := c10; have o5 := q_1r; have o6 := r_4; have o7 := r_5; have o8 := r_6; have o9 := r_3; have l10 := tl_20; have l11 := tl_260; unfold q_r at o5 o6 o7 o8 o9; omega)⟩)) my_X12_types mv_X12_types w869 dX12_feed_33 tA0 (by decide) rfl rfl (Nat.le_of_ble_eq_true rfl) (by decide) (fun s33 p33 => ?_)
    have w33 := w27.trans p33.1 rfl
    replace hF := fx_S hF p33.2.1
    obtain ⟨t33, ft33, et33⟩ := p33.2.2
    replace hF := fx_I hF ft33 rfl
    refine q_aload_n (pc := 36) hG dX12_feed_36 0 rfl ?_
    refine q_iload (pc := 37) hG dX12_feed_37 5 rfl ?_
    have r_7 := (show q_r t33 16 276 from ⟨by have q := r_6; unfold q_r at q; omega, by have q := r_6; unfold q_r at q; omega⟩)
    refine q_cVv (pc := 39) [.int x5] [] hG (c_X12_types τ s33 a0 x5 w33.1 tA0 t33 ft33 (show q_r t33 0 256 from ⟨(by have o0 := et33; have o1 := et27; have o2 := et22; have o3 := et17; have o4 := (q_addN (lo := 20) (hi := 280) e6 q_1r rl_20 (by decide)).1; have o5 := c10; have o6 := q_1r; have o7 := r_4; have o8 := r_5; have o9 := r_6; have o10 := r_7; have o11 := r_3; have l12 := tl_20; have l13 := tl_260; unfold q_r at o6 o7 o8 o9 o10 o11; omega), (by have o0 := et33; have o1 := et27; have o2 := et22; have o3 := et17; have o4 := (q_addN (lo := 20) (hi := 280) e6 q_1r rl_20 (by decide)).1; have o5 := c10; have o6 := q_1r; have o7 := r_4; have o8 := r_5; have o9 := r_6; have o10 := r_7; have o11 := r_3; have l12 := tl_20; have l13 := tl_260; unfold q_r at o6 o7 o8 o9 o10 o11; omega)⟩)) my_X12_types mv_X12_types w869 dX12_feed_39 tA0 (by decide) rfl rfl (Nat.le_of_ble_eq_true rfl) (by decide) (fun s39 p39 => ?_)
    have w39 := w33.trans p39.1 rfl
    replace hF := fx_S hF p39.2.1
    obtain ⟨t39, ft39, et39⟩ := p39.2.2
    replace hF := fx_I hF ft39 rfl
    refine q_aload_n (pc := 42) hG dX12_feed_42 0 rfl ?_
    refine q_getV (pc := 43) (v := .int t39) hG fl_X12_119 dX12_feed_43 tA0 ft39 ?_
    have r_8 := (show q_r t39 20 280 from ⟨by have q := r_7; unfold q_r at q; omega, by have q := r_7; unfold q_r at q; omega⟩)
    exact q_irt hG hE dX12_feed_46 ⟨w39, (q_r.mono r_8 (by decide)), (fx_end hF hF0), (fun t e => by cases e.symm.trans q_1f; exact ⟨t39, ft39, (by have o0 := (q_addN (lo := 20) (hi := 280) e6 q_1r rl_20 (by decide)).1; have o1 := c10; have o2 := et17; have o3 := et22; have o4 := et27; have o5 := et33; have o6 := et39; have o7 := q_1r; have o8 := r_4; have o9 := r_5; have o10 := r_6; have o11 := r_7; have o12 := r_8; have o13 := r_3; have l14 := tl_20; have l15 := tl_260; unfold q_r at o7 o8 o9 o10 o11 o12 o13; omega)⟩)⟩
  intro c10
  have r_9 := (q_addN (lo := 20) (hi := 280) e6 q_1r rl_20 (by decide)).2
  replace hF := fx_lt1 hF tl_260 rfl c10
  refine q_iconst (pc := 13) hG dX12_feed_13 ki_m1 ?_
  have r_10 := q_rgt r_9 rl_260 c10 261 (by decide)
  exact q_irt hG hE dX12_feed_14 ⟨hS0, (q_r.mono rl_m1 (by decide)), (by rw [tl_m1]; exact fx_end hF hF0), (fun t e => by cases e.symm.trans q_1f; exact ⟨q_1v, q_1f, (by have o0 := (q_addN (lo := 20) (hi := 280) e6 q_1r rl_20 (by decide)).1; have o1 := c10; have o2 := q_1r; have o3 := r_10; have l4 := tl_m1; have l5 := tl_20; have l6 := tl_260; unfold q_r at o2 o3; omega)⟩)⟩
theorem dX12_here_0 : decode cX12_here 0 = .ok (.aload_n 0, 1) := by decide +kernel
theorem dX12_here_1 : decode cX12_here 1 = .ok (.getfield 126, 3) := by decide +kernel
theorem dX12_here_4 : decode cX12_here 4 = .ok (.aload_n 0, 1) := by decide +kernel
theorem dX12_here_5 : decode cX12_here 5 = .ok (.getfield 129, 3) := by decide +kernel
theorem dX12_here_8 : decode cX12_here 8 = .ok (.if_icmp .ge 19, 3) := by decide +kernel
theorem dX12_here_11 : decode cX12_here 11 = .ok (.aload_n 0, 1) := by decide +kernel
theorem dX12_here_12 : decode cX12_here 12 = .ok (.getfield 19, 3) := by decide +kernel
theorem dX12_here_15 : decode cX12_here 15 = .ok (.aload_n 0, 1) := by decide +kernel
theorem dX12_here_16 : decode cX12_here 16 = .ok (.getfield 126, 3) := by decide +kernel
theorem dX12_here_19 : decode cX12_here 19 = .ok (.baload, 1) := by decide +kernel
theorem dX12_here_20 : decode cX12_here 20 = .ok (.sipush 255, 3) := by decide +kernel
theorem dX12_here_23 : decode cX12_here 23 = .ok (.iand, 1) := by decide +kernel
theorem dX12_here_24 : decode cX12_here 24 = .ok (.goto 4, 3) := by decide +kernel
theorem dX12_here_27 : decode cX12_here 27 = .ok (.iconst (-1), 1) := by decide +kernel
theorem dX12_here_28 : decode cX12_here 28 = .ok (.ireturn, 1) := by decide +kernel
set_option maxRecDepth 100000 in
set_option maxHeartbeats 4000000 in
theorem c_X12_here {l : Launch} {D : q_D} (τ : q_T) (σ : q_V) (a0 : Nat) (hI : q_I τ σ) (tA0 : τ a0 = some (10, 1)) : q_Cp l D yX12_here cX12_here 1 (some .int) 0 0 τ σ [.ref a0] (fun r => (q_r r (-1) 255) ∧ (r.toInt = f_X12_here (fx_N σ) a0) ∧ (∀ x : Int32, σ a0 5 = .int x → r.toInt < 0 ∨ x.toInt ≤ 259) ∧ (r.toInt = q_hr σ a0)) := by
  refine q_meti rfl (Nat.le_of_ble_eq_true rfl) (fun X hG hE => ?_)
  show q_O X 0 0 τ σ 0 [(0, .ref a0)] []
  obtain ⟨Fv, hF⟩ : ∃ z, fx_eq z (f_X12_here (fx_N σ) a0) := ⟨_, fx_rf⟩
  have hF0 := hF
  unfold f_X12_here at hF
  obtain ⟨q_1v, q_1f, q_1r⟩ := (hI a0 10 1 tA0 5 (by decide)).int ff_10_5
  replace hF := fx_I hF q_1f rfl
  obtain ⟨q_2v, q_2f, q_2r⟩ := (hI a0 10 1 tA0 6 (by decide)).int ff_10_6
  replace hF := fx_I hF q_2f rfl
  obtain ⟨q_3b, q_3f, q_3T⟩ := (hI a0 10 1 tA0 3 (by decide)).ref (k := 310) (n := 260) rfl
  replace hF := fx_R hF q_3f rfl
  refine q_aload_n (pc := 0) hG dX12_here_0 0 rfl ?_
  refine q_getV (pc := 1) (v := .int q_1v) hG fl_X12_126 dX12_here_1 tA0 q_1f ?_
  refine q_aload_n (pc := 4) hG dX12_here_4 0 rfl ?_
  refine q_getV (pc := 5) (v := .int q_2v) hG fl_X12_129 dX12_here_5 tA0 q_2f ?_
  refine q_icmp_ge (pc := 8) hG 27 dX12_here_8 rfl ?_ ?_
  · intro c8
    replace hF := fx_lt2 hF rfl rfl c8
    refine q_iconst (pc := 27) hG dX12_here_27 ki_m1 ?_
    exact q_irt hG hE dX12_here_28 ⟨rfl, (q_r.mono rl_m1 (by decide)), (by rw [tl_m1]; exact fx_end hF hF0), (fun x e => by have q := e.symm.trans q_1f; cases q; exact (by have o0 := c8; have o1 := q_1r; have o2 := q_2r; have l3 := tl_m1; unfold q_r at o1 o2; omega)), (by have q := q_hr_out q_1f q_2f q_3f (by have o0 := c8; have o1 := q_1r; have o2 := q_2r; unfold q_r at o1 o2; omega); exact tl_m1.trans q.symm)⟩
  intro c8
  replace hF := fx_lt1 hF rfl rfl c8
  refine q_aload_n (pc := 11) hG dX12_here_11 0 rfl ?_
  refine q_getV (pc := 12) (v := .ref q_3b) hG fl_X12_19 dX12_here_12 tA0 q_3f ?_
  refine q_aload_n (pc := 15) hG dX12_here_15 0 rfl ?_
  refine q_getV (pc := 16) (v := .int q_1v) hG fl_X12_126 dX12_here_16 tA0 q_1f ?_
  have r_4 := q_rlt q_1r q_2r c8 259 (by decide)
  refine q_bald (pc := 19) hG dX12_here_19 hI ai_310 q_3T (q_ix r_4 (by decide)) (fun v19 f19 g19 => ?_)
  replace hF := fx_I hF f19 rfl
  refine q_sipush (pc := 20) hG dX12_here_20 ks_255 ?_
  refine q_iand (pc := 23) hG dX12_here_23 (fun v23 e23 => ?_)
  replace hF := fx_B_and hF rfl tl_255 e23
  refine q_goto (pc := 24) 28 hG dX12_here_24 rfl ?_
  have r_5 := q_andN (n := 255) e23 rfl (by decide)
  have r_6 := q_rgt q_2r q_1r c8 1 (by decide)
  exact q_irt hG hE dX12_here_28 ⟨rfl, (q_r.mono r_5 (by decide)), (fx_end hF hF0), (fun x e => by have q := e.symm.trans q_1f; cases q; exact (by have o0 := c8; have o1 := r_4; have o2 := r_6; have o3 := r_5; unfold q_r at o1 o2 o3; omega)), (by have q := q_hr_in q_1f q_2f q_3f f19 (by have o0 := c8; have o1 := r_4; have o2 := r_6; unfold q_r at o1 o2; omega); rw [q, e23])⟩
theorem dX12_isDigit_0 : decode cX12_isDigit 0 = .ok (.aload_n 0, 1) := by decide +kernel
theorem dX12_isDigit_1 : decode cX12_isDigit 1 = .ok (.invokevirtual 132, 3) := by decide +kernel
theorem dX12_isDigit_4 : decode cX12_isDigit 4 = .ok (.bipush 48, 2) := by decide +kernel
theorem dX12_isDigit_6 : decode cX12_isDigit 6 = .ok (.if_icmp .lt 16, 3) := by decide +kernel
theorem dX12_isDigit_9 : decode cX12_isDigit 9 = .ok (.aload_n 0, 1) := by decide +kernel
theorem dX12_isDigit_10 : decode cX12_isDigit 10 = .ok (.invokevirtual 132, 3) := by decide +kernel
theorem dX12_isDigit_13 : decode cX12_isDigit 13 = .ok (.bipush 57, 2) := by decide +kernel
theorem dX12_isDigit_15 : decode cX12_isDigit 15 = .ok (.if_icmp .gt 7, 3) := by decide +kernel
theorem dX12_isDigit_18 : decode cX12_isDigit 18 = .ok (.iconst 1, 1) := by decide +kernel
theorem dX12_isDigit_19 : decode cX12_isDigit 19 = .ok (.goto 4, 3) := by decide +kernel
theorem dX12_isDigit_22 : decode cX12_isDigit 22 = .ok (.iconst 0, 1) := by decide +kernel
theorem dX12_isDigit_23 : decode cX12_isDigit 23 = .ok (.ireturn, 1) := by decide +kernel
set_option maxRecDepth 100000 in
set_option maxHeartbeats 4000000 in
theorem c_X12_isDigit {l : Launch} {D : q_D} (τ : q_T) (σ : q_V) (a0 : Nat) (hI : q_I τ σ) (tA0 : τ a0 = some (10, 1)) : q_Cp l D yX12_isDigit cX12_isDigit 1 (some .boolean) 1 20 τ σ [.ref a0] (fun r => (q_r r 0 1) ∧ (r.toInt = f_X12_isDigit (fx_N σ) a0) ∧ (∀ x : Int32, σ a0 5 = .int x → r.toInt = 0 ∨ x.toInt ≤ 259) ∧ (r.toInt = 1 ↔ (48 ≤ q_hr σ a0 ∧ q_hr σ a0 ≤ 57))) := by
  refine q_meti rfl (Nat.le_of_ble_eq_true rfl) (fun X hG hE => ?_)
  show q_O X 0 0 τ σ 0 [(0, .ref a0)] []
  obtain ⟨Fv, hF⟩ : ∃ z, fx_eq z (f_X12_isDigit (fx_N σ) a0) := ⟨_, fx_rf⟩
  have hF0 := hF
  unfold f_X12_isDigit at hF
  obtain ⟨q_1v, q_1f, q_1r⟩ := (hI a0 10 1 tA0 5 (by decide)).int ff_10_5
  replace hF := fx_I hF q_1f rfl
  refine q_aload_n (pc := 0) hG dX12_isDigit_0 0 rfl ?_
  refine q_pV (pc := 1) [] [] hG (c_X12_here τ σ a0 hI tA0) my_X12_here mv_X12_here w879 dX12_isDigit_1 tA0 (by decide) rfl rfl (Nat.le_of_ble_eq_true rfl) (by decide) (fun v1 p1 => ?_)
  replace hF := fx_E hF p1.2.1
  refine q_bipush (pc := 4) hG dX12_isDigit_4 kb_48 ?_
  refine q_icmp_lt (pc := 6) hG 22 dX12_isDigit_6 rfl ?_ ?_
  · intro c6
    replace hF := fx_lt1 hF rfl tl_48 c6
    refine q_iconst (pc := 22) hG dX12_isDigit_22 ki_0 ?_
    have r_2 := q_rlt p1.1 rl_48 c6 47 (by decide)
    exact q_zrt hG hE dX12_isDigit_23 (q_r.mono rl_0 (by decide)) ⟨rfl, (q_r.mono rl_0 (by decide)), (by rw [tl_0]; exact fx_end hF hF0), (fun x e => by have q := e.symm.trans q_1f; cases q; exact (by have o0 := (p1.2.2.1 q_1v q_1f); have o1 := p1.2.2.2; have o2 := c6; have o3 := q_1r; have o4 := r_2; have l5 := tl_0; have l6 := tl_48; unfold q_r at o3 o4; omega)), (by have o0 := (p1.2.2.1 q_1v q_1f); have o1 := p1.2.2.2; have o2 := c6; have o3 := q_1r; have o4 := r_2; have l5 := tl_0; have l6 := tl_48; unfold q_r at o3 o4; omega)⟩
  intro c6
  replace hF := fx_lt2 hF rfl tl_48 c6
  refine q_aload_n (pc := 9) hG dX12_isDigit_9 0 rfl ?_
  refine q_pV (pc := 10) [] [] hG (c_X12_here τ σ a0 hI tA0) my_X12_here mv_X12_here w879 dX12_isDigit_10 tA0 (by decide) rfl rfl (Nat.le_of_ble_eq_true rfl) (by decide) (fun v10 p10 => ?_)
  replace hF := fx_E hF p10.2.1
  refine q_bipush (pc := 13) hG dX12_isDigit_13 kb_57 ?_
  refine q_icmp_gt (pc := 15) hG 22 dX12_isDigit_15 rfl ?_ ?_
  · intro c15
    replace hF := fx_lt1 hF tl_57 rfl c15
    refine q_iconst (pc := 22) hG dX12_isDigit_22 ki_0 ?_
    have r_3 := q_rge p1.1 rl_48 c6
    have r_4 := q_rgt p10.1 rl_57 c15 58 (by decide)
    exact q_zrt hG hE dX12_isDigit_23 (q_r.mono rl_0 (by decide)) ⟨rfl, (q_r.mono rl_0 (by decide)), (by rw [tl_0]; exact fx_end hF hF0), (fun x e => by have q := e.symm.trans q_1f; cases q; exact (by have o0 := (p1.2.2.1 q_1v q_1f); have o1 := p1.2.2.2; have o2 := c6; have o3 := p10.2.2.2; have o4 := c15; have o5 := q_1r; have o6 := r_3; have o7 := r_4; have l8 := tl_0; have l9 := tl_48; have l10 := tl_57; unfold q_r at o5 o6 o7; omega)), (by have o0 := (p1.2.2.1 q_1v q_1f); have o1 := p1.2.2.2; have o2 := c6; have o3 := p10.2.2.2; have o4 := c15; have o5 := q_1r; have o6 := r_3; have o7 := r_4; have l8 := tl_0; have l9 := tl_48; have l10 := tl_57; unfold q_r at o5 o6 o7; omega)⟩
  intro c15
  replace hF := fx_lt2 hF tl_57 rfl c15
  refine q_iconst (pc := 18) hG dX12_isDigit_18 ki_1 ?_
  refine q_goto (pc := 19) 23 hG dX12_isDigit_19 rfl ?_
  have r_5 := q_rge p1.1 rl_48 c6
  have r_6 := q_rle p10.1 rl_57 c15
  exact q_zrt hG hE dX12_isDigit_23 (q_r.mono rl_1 (by decide)) ⟨rfl, (q_r.mono rl_1 (by decide)), (by rw [tl_1]; exact fx_end hF hF0), (fun x e => by have q := e.symm.trans q_1f; cases q; exact (by have o0 := (p1.2.2.1 q_1v q_1f); have o1 := p1.2.2.2; have o2 := c6; have o3 := p10.2.2.2; have o4 := c15; have o5 := q_1r; have o6 := r_5; have o7 := r_6; have l8 := tl_1; have l9 := tl_48; have l10 := tl_57; unfold q_r at o5 o6 o7; omega)), (by have o0 := (p1.2.2.1 q_1v q_1f); have o1 := p1.2.2.2; have o2 := c6; have o3 := p10.2.2.2; have o4 := c15; have o5 := q_1r; have o6 := r_5; have o7 := r_6; have l8 := tl_1; have l9 := tl_48; have l10 := tl_57; unfold q_r at o5 o6 o7; omega)⟩
theorem dX12_takes_0 : decode cX12_takes 0 = .ok (.aload_n 0, 1) := by decide +kernel
theorem dX12_takes_1 : decode cX12_takes 1 = .ok (.invokevirtual 132, 3) := by decide +kernel
theorem dX12_takes_4 : decode cX12_takes 4 = .ok (.iload_n 1, 1) := by decide +kernel
theorem dX12_takes_5 : decode cX12_takes 5 = .ok (.if_icmp .eq 13, 3) := by decide +kernel
theorem dX12_takes_8 : decode cX12_takes 8 = .ok (.aload_n 0, 1) := by decide +kernel
theorem dX12_takes_9 : decode cX12_takes 9 = .ok (.iconst 1, 1) := by decide +kernel
theorem dX12_takes_10 : decode cX12_takes 10 = .ok (.aload_n 0, 1) := by decide +kernel
theorem dX12_takes_11 : decode cX12_takes 11 = .ok (.getfield 126, 3) := by decide +kernel
theorem dX12_takes_14 : decode cX12_takes 14 = .ok (.invokevirtual 139, 3) := by decide +kernel
theorem dX12_takes_17 : decode cX12_takes 17 = .ok (.ireturn, 1) := by decide +kernel
theorem dX12_takes_18 : decode cX12_takes 18 = .ok (.aload_n 0, 1) := by decide +kernel
theorem dX12_takes_19 : decode cX12_takes 19 = .ok (.aload_n 0, 1) := by decide +kernel
theorem dX12_takes_20 : decode cX12_takes 20 = .ok (.getfield 126, 3) := by decide +kernel
theorem dX12_takes_23 : decode cX12_takes 23 = .ok (.iconst 1, 1) := by decide +kernel
theorem dX12_takes_24 : decode cX12_takes 24 = .ok (.iadd, 1) := by decide +kernel
theorem dX12_takes_25 : decode cX12_takes 25 = .ok (.putfield 126, 3) := by decide +kernel
theorem dX12_takes_28 : decode cX12_takes 28 = .ok (.iconst 1, 1) := by decide +kernel
theorem dX12_takes_29 : decode cX12_takes 29 = .ok (.ireturn, 1) := by decide +kernel
def md_X12_takes : List (Nat × Nat) := [(10, 5), (10, 7)]
set_option maxRecDepth 100000 in
set_option maxHeartbeats 4000000 in
theorem c_X12_takes {l : Launch} {D : q_D} (τ : q_T) (σ : q_V) (a0 : Nat) (x1 : Int32) (hI : q_I τ σ) (tA0 : τ a0 = some (10, 1)) (rA1 : q_r x1 0 255) : q_Ci l D yX12_takes cX12_takes 2 (some .boolean) 1 22 τ σ [.ref a0, .int x1] (fun r σ1 => q_S md_X12_takes τ σ σ1 ∧ (q_r r 0 1) ∧ ((r.toInt, fx_N σ1) = f_X12_takes (fx_N σ) a0 x1.toInt) ∧ (∀ x : Int32, σ a0 5 = .int x → ∃ y : Int32, σ1 a0 5 = .int y ∧ q_r y 0 260 ∧ x.toInt ≤ y.toInt ∧ (r.toInt = 0 ∨ y.toInt = x.toInt + 1))) := by
  refine q_meti rfl (Nat.le_of_ble_eq_true rfl) (fun X hG hE => ?_)
  show q_O X 0 0 τ σ 0 [(0, .ref a0), (1, .int x1)] []
  have hS0 : q_S md_X12_takes τ σ σ := q_S.rf hI
  obtain ⟨Fv, hF⟩ : ∃ z, fx_eq z (f_X12_takes (fx_N σ) a0 x1.toInt) := ⟨_, fx_rf⟩
  have hF0 := hF
  unfold f_X12_takes at hF
  obtain ⟨q_1v, q_1f, q_1r⟩ := (hI a0 10 1 tA0 5 (by decide)).int ff_10_5
  replace hF := fx_I hF q_1f rfl
  refine q_aload_n (pc := 0) hG dX12_takes_0 0 rfl ?_
  refine q_pV (pc := 1) [] [] hG (c_X12_here τ σ a0 hI tA0) my_X12_here mv_X12_here w879 dX12_takes_1 tA0 (by decide) rfl rfl (Nat.le_of_ble_eq_true rfl) (by decide) (fun v1 p1 => ?_)
  replace hF := fx_E hF p1.2.1
  refine q_iload_n (pc := 4) hG dX12_takes_4 1 rfl ?_
  refine q_icmp_eq (pc := 5) hG 18 dX12_takes_5 rfl ?_ ?_
  · intro c5
    replace hF := fx_eq1 hF rfl rfl c5
    refine q_aload_n (pc := 18) hG dX12_takes_18 0 rfl ?_
    refine q_aload_n (pc := 19) hG dX12_takes_19 0 rfl ?_
    refine q_getV (pc := 20) (v := .int q_1v) hG fl_X12_126 dX12_takes_20 tA0 q_1f ?_
    refine q_iconst (pc := 23) hG dX12_takes_23 ki_1 ?_
    refine q_iadd (pc := 24) hG dX12_takes_24 (fun v24 e24 => ?_)
    replace hF := fx_add hF rfl tl_1 (q_addN (lo := 1) (hi := 261) e24 q_1r rl_1 (by decide)).1
    have r_2 := q_req rA1 c5
    have r_3 := (q_addN (lo := 1) (hi := 261) e24 q_1r rl_1 (by decide)).2
    refine q_putI (pc := 25) hG fl_X12_126 dX12_takes_25 hS0 tA0 ff_10_5 (show q_r v24 0 260 from ⟨(by have o0 := (q_addN (lo := 1) (hi := 261) e24 q_1r rl_1 (by decide)).1; have o1 := (p1.2.2.1 q_1v q_1f); have o2 := p1.2.2.2; have o3 := c5; have o4 := q_1r; have o5 := r_2; have o6 := r_3; have o7 := rA1; have l8 := tl_1; unfold q_r at o4 o5 o6 o7; omega), (by have o0 := (q_addN (lo := 1) (hi := 261) e24 q_1r rl_1 (by decide)).1; have o1 := (p1.2.2.1 q_1v q_1f); have o2 := p1.2.2.2; have o3 := c5; have o4 := q_1r; have o5 := r_2; have o6 := r_3; have o7 := rA1; have l8 := tl_1; unfold q_r at o4 o5 o6 o7; omega)⟩) (by decide) rfl (fun s25 u25 w25 => ?_)
    replace hF := fx_P hF u25 rfl rfl
    have m25 : s25 a0 5 = .int v24 := by rw [u25]; exact q_up_same
    refine q_iconst (pc := 28) hG dX12_takes_28 ki_1 ?_
    exact q_zrt hG hE dX12_takes_29 (q_r.mono rl_1 (by decide)) ⟨w25, (q_r.mono rl_1 (by decide)), (by rw [tl_1]; exact fx_end hF hF0), (fun x e => by have q := e.symm.trans q_1f; cases q; exact ⟨v24, m25, (show q_r v24 0 260 from ⟨(by have o0 := (q_addN (lo := 1) (hi := 261) e24 q_1r rl_1 (by decide)).1; have o1 := (p1.2.2.1 q_1v q_1f); have o2 := p1.2.2.2; have o3 := c5; have o4 := q_1r; have o5 := r_2; have o6 := r_3; have o7 := rA1; have l8 := tl_1; unfold q_r at o4 o5 o6 o7; omega), (by have o0 := (q_addN (lo := 1) (hi := 261) e24 q_1r rl_1 (by decide)).1; have o1 := (p1.2.2.1 q_1v q_1f); have o2 := p1.2.2.2; have o3 := c5; have o4 := q_1r; have o5 := r_2; have o6 := r_3; have o7 := rA1; have l8 := tl_1; unfold q_r at o4 o5 o6 o7; omega)⟩), (by have o0 := (p1.2.2.1 q_1v q_1f); have o1 := p1.2.2.2; have o2 := c5; have o3 := (q_addN (lo := 1) (hi := 261) e24 q_1r rl_1 (by decide)).1; have o4 := q_1r; have o5 := r_2; have o6 := r_3; have o7 := rA1; have l8 := tl_1; unfold q_r at o4 o5 o6 o7; omega), (by have o0 := (p1.2.2.1 q_1v q_1f); have o1 := p1.2.2.2; have o2 := c5; have o3 := (q_addN (lo := 1) (hi := 261) e24 q_1r rl_1 (by decide)).1; have o4 := q_1r; have o5 := r_2; have o6 := r_3; have o7 := rA1; have l8 := tl_1; unfold q_r at o4 o5 o6 o7; omega)⟩)⟩
  intro c5
  replace hF := fx_eq2 hF rfl rfl c5
  refine q_aload_n (pc := 8) hG dX12_takes_8 0 rfl ?_
  refine q_iconst (pc := 9) hG dX12_takes_9 ki_1 ?_
  refine q_aload_n (pc := 10) hG dX12_takes_10 0 rfl ?_
  refine q_getV (pc := 11) (v := .int q_1v) hG fl_X12_126 dX12_takes_11 tA0 q_1f ?_
  refine q_cVi (pc := 14) [.int 1, .int q_1v] [] hG (c_X12_wrongAt τ σ a0 1 q_1v hI tA0) my_X12_wrongAt mv_X12_wrongAt w888 dX12_takes_14 tA0 (by decide) rfl rfl (Nat.le_of_ble_eq_true rfl) (by decide) (fun v14 s14 p14 => ?_)
  have w14 := hS0.trans p14.1 rfl
  have fq14 := p14.2.2
  rewrite [tl_1] at fq14
  replace hF := fx_C hF fq14
  exact q_zrt hG hE dX12_takes_17 (q_r.mono p14.2.1 (by decide)) ⟨w14, (q_r.mono p14.2.1 (by decide)), (fx_end hF hF0), (fun x e => by have q := e.symm.trans q_1f; cases q; exact ⟨q_1v, (p14.1.same tA0 rfl q_1f), q_1r, (by have o0 := (p1.2.2.1 q_1v q_1f); have o1 := p1.2.2.2; have o2 := c5; have o3 := q_1r; have o4 := p1.1; have o5 := rA1; unfold q_r at o3 o4 o5; omega), (by have o0 := (p1.2.2.1 q_1v q_1f); have o1 := p1.2.2.2; have o2 := c5; have o3 := q_1r; have o4 := p1.1; have o5 := p14.2.1; have o6 := rA1; unfold q_r at o3 o4 o5 o6; omega)⟩)⟩
theorem dX12_readsTwo_0 : decode cX12_readsTwo 0 = .ok (.aload_n 0, 1) := by decide +kernel
theorem dX12_readsTwo_1 : decode cX12_readsTwo 1 = .ok (.getfield 126, 3) := by decide +kernel
theorem dX12_readsTwo_4 : decode cX12_readsTwo 4 = .ok (.istore_n 1, 1) := by decide +kernel
theorem dX12_readsTwo_5 : decode cX12_readsTwo 5 = .ok (.aload_n 0, 1) := by decide +kernel
theorem dX12_readsTwo_6 : decode cX12_readsTwo 6 = .ok (.invokevirtual 146, 3) := by decide +kernel
theorem dX12_readsTwo_9 : decode cX12_readsTwo 9 = .ok (.ifCond .ne 13, 3) := by decide +kernel
theorem dX12_readsTwo_12 : decode cX12_readsTwo 12 = .ok (.aload_n 0, 1) := by decide +kernel
theorem dX12_readsTwo_13 : decode cX12_readsTwo 13 = .ok (.iconst 1, 1) := by decide +kernel
theorem dX12_readsTwo_14 : decode cX12_readsTwo 14 = .ok (.aload_n 0, 1) := by decide +kernel
theorem dX12_readsTwo_15 : decode cX12_readsTwo 15 = .ok (.getfield 126, 3) := by decide +kernel
theorem dX12_readsTwo_18 : decode cX12_readsTwo 18 = .ok (.invokevirtual 139, 3) := by decide +kernel
theorem dX12_readsTwo_21 : decode cX12_readsTwo 21 = .ok (.ireturn, 1) := by decide +kernel
theorem dX12_readsTwo_22 : decode cX12_readsTwo 22 = .ok (.aload_n 0, 1) := by decide +kernel
theorem dX12_readsTwo_23 : decode cX12_readsTwo 23 = .ok (.iconst 0, 1) := by decide +kernel
theorem dX12_readsTwo_24 : decode cX12_readsTwo 24 = .ok (.putfield 143, 3) := by decide +kernel
theorem dX12_readsTwo_27 : decode cX12_readsTwo 27 = .ok (.aload_n 0, 1) := by decide +kernel
theorem dX12_readsTwo_28 : decode cX12_readsTwo 28 = .ok (.invokevirtual 146, 3) := by decide +kernel
theorem dX12_readsTwo_31 : decode cX12_readsTwo 31 = .ok (.ifCond .eq 45, 3) := by decide +kernel
theorem dX12_readsTwo_34 : decode cX12_readsTwo 34 = .ok (.aload_n 0, 1) := by decide +kernel
theorem dX12_readsTwo_35 : decode cX12_readsTwo 35 = .ok (.getfield 126, 3) := by decide +kernel
theorem dX12_readsTwo_38 : decode cX12_readsTwo 38 = .ok (.iload_n 1, 1) := by decide +kernel
theorem dX12_readsTwo_39 : decode cX12_readsTwo 39 = .ok (.iconst 2, 1) := by decide +kernel
theorem dX12_readsTwo_40 : decode cX12_readsTwo 40 = .ok (.iadd, 1) := by decide +kernel
theorem dX12_readsTwo_41 : decode cX12_readsTwo 41 = .ok (.if_icmp .ge 35, 3) := by decide +kernel
theorem dX12_readsTwo_44 : decode cX12_readsTwo 44 = .ok (.aload_n 0, 1) := by decide +kernel
theorem dX12_readsTwo_45 : decode cX12_readsTwo 45 = .ok (.bipush 10, 2) := by decide +kernel
theorem dX12_readsTwo_47 : decode cX12_readsTwo 47 = .ok (.aload_n 0, 1) := by decide +kernel
theorem dX12_readsTwo_48 : decode cX12_readsTwo 48 = .ok (.getfield 143, 3) := by decide +kernel
theorem dX12_readsTwo_51 : decode cX12_readsTwo 51 = .ok (.imul, 1) := by decide +kernel
theorem dX12_readsTwo_52 : decode cX12_readsTwo 52 = .ok (.aload_n 0, 1) := by decide +kernel
theorem dX12_readsTwo_53 : decode cX12_readsTwo 53 = .ok (.invokevirtual 132, 3) := by decide +kernel
theorem dX12_readsTwo_56 : decode cX12_readsTwo 56 = .ok (.iadd, 1) := by decide +kernel
theorem dX12_readsTwo_57 : decode cX12_readsTwo 57 = .ok (.bipush 48, 2) := by decide +kernel
theorem dX12_readsTwo_59 : decode cX12_readsTwo 59 = .ok (.isub, 1) := by decide +kernel
theorem dX12_readsTwo_60 : decode cX12_readsTwo 60 = .ok (.putfield 143, 3) := by decide +kernel
theorem dX12_readsTwo_63 : decode cX12_readsTwo 63 = .ok (.aload_n 0, 1) := by decide +kernel
theorem dX12_readsTwo_64 : decode cX12_readsTwo 64 = .ok (.aload_n 0, 1) := by decide +kernel
theorem dX12_readsTwo_65 : decode cX12_readsTwo 65 = .ok (.getfield 126, 3) := by decide +kernel
theorem dX12_readsTwo_68 : decode cX12_readsTwo 68 = .ok (.iconst 1, 1) := by decide +kernel
theorem dX12_readsTwo_69 : decode cX12_readsTwo 69 = .ok (.iadd, 1) := by decide +kernel
theorem dX12_readsTwo_70 : decode cX12_readsTwo 70 = .ok (.putfield 126, 3) := by decide +kernel
theorem dX12_readsTwo_73 : decode cX12_readsTwo 73 = .ok (.goto (-46), 3) := by decide +kernel
theorem dX12_readsTwo_76 : decode cX12_readsTwo 76 = .ok (.iconst 1, 1) := by decide +kernel
theorem dX12_readsTwo_77 : decode cX12_readsTwo 77 = .ok (.ireturn, 1) := by decide +kernel
def md_X12_readsTwo : List (Nat × Nat) := [(10, 5), (10, 7), (10, 8)]
set_option maxRecDepth 100000 in
set_option maxHeartbeats 4000000 in
theorem c_X12_readsTwo {l : Launch} {D : q_D} (τ : q_T) (σ : q_V) (a0 : Nat) (hI : q_I τ σ) (tA0 : τ a0 = some (10, 1)) : q_Ci l D yX12_readsTwo cX12_readsTwo 2 (some .boolean) 2 40 τ σ [.ref a0] (fun r σ1 => q_S md_X12_readsTwo τ σ σ1 ∧ (q_r r 0 1) ∧ ((r.toInt, fx_N σ1) = f_X12_readsTwo (fx_N σ) a0) ∧ (∀ x : Int32, σ a0 5 = .int x → ∃ y : Int32, σ1 a0 5 = .int y ∧ q_r y 0 260 ∧ x.toInt ≤ y.toInt) ∧ (r.toInt = 1 → q_x (∃ n : Int32, σ1 a0 8 = .int n ∧ q_r n 0 99))) := by
  refine q_meti rfl (Nat.le_of_ble_eq_true rfl) (fun X hG hE => ?_)
  show q_O X 0 0 τ σ 0 [(0, .ref a0)] []
  have hS0 : q_S md_X12_readsTwo τ σ σ := q_S.rf hI
  obtain ⟨Fv, hF⟩ : ∃ z, fx_eq z (f_X12_readsTwo (fx_N σ) a0) := ⟨_, fx_rf⟩
  have hF0 := hF
  unfold f_X12_readsTwo at hF
  obtain ⟨q_1v, q_1f, q_1r⟩ := (hI a0 10 1 tA0 5 (by decide)).int ff_10_5
  replace hF := fx_I hF q_1f rfl
  refine q_aload_n (pc := 0) hG dX12_readsTwo_0 0 rfl ?_
  refine q_getV (pc := 1) (v := .int q_1v) hG fl_X12_126 dX12_readsTwo_1 tA0 q_1f ?_
  refine q_istore_n (pc := 4) [(1, .int q_1v), (0, .ref a0)] hG dX12_readsTwo_4 (by decide) rfl ?_
  refine q_aload_n (pc := 5) hG dX12_readsTwo_5 1 rfl ?_
  refine q_pV (pc := 6) [] [] hG (c_X12_isDigit τ σ a0 hI tA0) my_X12_isDigit mv_X12_isDigit w885 dX12_readsTwo_6 tA0 (by decide) rfl rfl (Nat.le_of_ble_eq_true rfl) (by decide) (fun v6 p6 => ?_)
  replace hF := fx_E hF p6.2.1
  refine q_if_ne (pc := 9) hG 22 dX12_readsTwo_9 rfl ?_ ?_
  · intro c9
    replace hF := fx_eq2 hF rfl rfl c9
    refine q_aload_n (pc := 22) hG dX12_readsTwo_22 1 rfl ?_
    refine q_iconst (pc := 23) hG dX12_readsTwo_23 ki_0 ?_
    refine q_putI (pc := 24) hG fl_X12_143 dX12_readsTwo_24 hS0 tA0 ff_10_8 rl_0 (by decide) rfl (fun s24 u24 w24 => ?_)
    replace hF := fx_P hF u24 rfl tl_0
    have m24 : s24 a0 8 = .int 0 := by rw [u24]; exact q_up_same
    have J27 : ∀ (n27 : Nat) (σ27 : q_V) (F27 : Int32) (G27 : Int32), (q_S md_X12_readsTwo τ σ σ27) → (σ27 a0 5 = .int F27 ∧ q_r F27 0 260) → (q_1v.toInt ≤ F27.toInt) → (σ27 a0 8 = .int G27 ∧ q_r G27 0 99) → ((F27.toInt = q_1v.toInt + 0 ∧ G27.toInt ≤ 0) ∨ (F27.toInt = q_1v.toInt + 1 ∧ G27.toInt ≤ 9) ∨ (F27.toInt = q_1v.toInt + 2 ∧ G27.toInt ≤ 99)) → (fx_eq Fv (kL_X12_readsTwo_27 a0 q_1v.toInt n27 (fx_N σ27) F27.toInt G27.toInt)) → ((260 - F27.toInt).toNat < n27) → q_O X 0 0 τ σ27 27 [(0, .ref a0), (1, .int q_1v)] [] := by
      intro n27
      induction n27 with
      | zero => intro σ27 F27 G27 hS27 iF27 iR27 iG27 iD27 hF hm27; exact absurd hm27 (Nat.not_lt_zero _)
      | succ n27 ih27 =>
        intro σ27 F27 G27 hS27 iF27 iR27 iG27 iD27 hF hm27
        replace hF := (show fx_eq Fv (kB_X12_readsTwo_27 (kL_X12_readsTwo_27 a0 q_1v.toInt n27) a0 q_1v.toInt (fx_N σ27) F27.toInt G27.toInt) from hF)
        unfold kB_X12_readsTwo_27 at hF
        refine q_aload_n (pc := 27) hG dX12_readsTwo_27 0 rfl ?_
        refine q_pV (pc := 28) [] [] hG (c_X12_isDigit τ σ27 a0 hS27.1 tA0) my_X12_isDigit mv_X12_isDigit w885 dX12_readsTwo_28 tA0 (by decide) rfl rfl (Nat.le_of_ble_eq_true rfl) (by decide) (fun v28 p28 => ?_)
        replace hF := fx_E hF p28.2.1
        refine q_if_eq (pc := 31) hG 76 dX12_readsTwo_31 rfl ?_ ?_
        · intro c31
          replace hF := fx_eq1 hF rfl rfl c31
          refine q_iconst (pc := 76) hG dX12_readsTwo_76 ki_1 ?_
          have r_2 := q_zeq c31
          have r_3 := q_neL (c := 1) p6.1 c9 (by decide)
          exact q_zrt hG hE dX12_readsTwo_77 (q_r.mono rl_1 (by decide)) ⟨hS27, (q_r.mono rl_1 (by decide)), (by rw [tl_1]; exact fx_end hF hF0), (fun x e => by have q := e.symm.trans q_1f; cases q; exact ⟨F27, iF27.1, iF27.2, (by have o0 := (p6.2.2.1 q_1v q_1f); have o1 := p6.2.2.2; have o2 := c9; have o3 := iR27; have o4 := iD27; have o5 := (p28.2.2.1 F27 iF27.1); have o6 := p28.2.2.2; have o7 := c31; have o8 := iF27.2; have o9 := iG27.2; have o10 := q_1r; have o11 := r_2; have o12 := r_3; unfold q_r at o8 o9 o10 o11 o12; omega)⟩), (fun _ => q_x.mk ⟨G27, iG27.1, iG27.2⟩)⟩
        intro c31
        replace hF := fx_eq2 hF rfl rfl c31
        refine q_aload_n (pc := 34) hG dX12_readsTwo_34 0 rfl ?_
        refine q_getV (pc := 35) (v := .int F27) hG fl_X12_126 dX12_readsTwo_35 tA0 iF27.1 ?_
        refine q_iload_n (pc := 38) hG dX12_readsTwo_38 1 rfl ?_
        refine q_iconst (pc := 39) hG dX12_readsTwo_39 ki_2 ?_
        refine q_iadd (pc := 40) hG dX12_readsTwo_40 (fun v40 e40 => ?_)
        replace hF := fx_add hF rfl tl_2 (q_addN (lo := 2) (hi := 262) e40 q_1r rl_2 (by decide)).1
        refine q_icmp_ge (pc := 41) hG 76 dX12_readsTwo_41 rfl ?_ ?_
        · intro c41
          have r_4 := (q_addN (lo := 2) (hi := 262) e40 q_1r rl_2 (by decide)).2
          replace hF := fx_lt2 hF rfl rfl c41
          refine q_iconst (pc := 76) hG dX12_readsTwo_76 ki_1 ?_
          have r_5 := q_rge iF27.2 r_4 c41
          have r_6 := q_neL (c := 1) p28.1 c31 (by decide)
          have r_7 := q_rle r_4 iF27.2 c41
          have r_8 := q_neL (c := 1) p6.1 c9 (by decide)
          exact q_zrt hG hE dX12_readsTwo_77 (q_r.mono rl_1 (by decide)) ⟨hS27, (q_r.mono rl_1 (by decide)), (by rw [tl_1]; exact fx_end hF hF0), (fun x e => by have q := e.symm.trans q_1f; cases q; exact ⟨F27, iF27.1, (q_r.mono r_5 (by decide)), (by have o0 := (p6.2.2.1 q_1v q_1f); have o1 := p6.2.2.2; have o2 := c9; have o3 := iR27; have o4 := iD27; have o5 := (p28.2.2.1 F27 iF27.1); have o6 := p28.2.2.2; have o7 := c31; have o8 := (q_addN (lo := 2) (hi := 262) e40 q_1r rl_2 (by decide)).1; have o9 := c41; have o10 := r_5; have o11 := iG27.2; have o12 := q_1r; have o13 := r_6; have o14 := r_7; have o15 := r_8; have l16 := tl_2; unfold q_r at o10 o11 o12 o13 o14 o15; omega)⟩), (fun _ => q_x.mk ⟨G27, iG27.1, iG27.2⟩)⟩
        intro c41
        have r_9 := (q_addN (lo := 2) (hi := 262) e40 q_1r rl_2 (by decide)).2
        replace hF := fx_lt1 hF rfl rfl c41
        refine q_aload_n (pc := 44) hG dX12_readsTwo_44 0 rfl ?_
        refine q_bipush (pc := 45) hG dX12_readsTwo_45 kb_10 ?_
        refine q_aload_n (pc := 47) hG dX12_readsTwo_47 0 rfl ?_
        refine q_getV (pc := 48) (v := .int G27) hG fl_X12_143 dX12_readsTwo_48 tA0 iG27.1 ?_
        refine q_imul (pc := 51) hG dX12_readsTwo_51 (fun v51 e51 => ?_)
        replace hF := fx_mul hF tl_10 rfl (q_mulN (lo := 0) (hi := 990) e51 rl_10 iG27.2 (by decide)).1
        refine q_aload_n (pc := 52) hG dX12_readsTwo_52 0 rfl ?_
        refine q_pV (pc := 53) [] [.int v51, .ref a0] hG (c_X12_here τ σ27 a0 hS27.1 tA0) my_X12_here mv_X12_here w879 dX12_readsTwo_53 tA0 (by decide) rfl rfl (Nat.le_of_ble_eq_true rfl) (by decide) (fun v53 p53 => ?_)
        replace hF := fx_E hF p53.2.1
        refine q_iadd (pc := 56) hG dX12_readsTwo_56 (fun v56 e56 => ?_)
        have r_10 := (q_mulN (lo := 0) (hi := 990) e51 rl_10 iG27.2 (by decide)).2
        replace hF := fx_add hF rfl rfl (q_addN (lo := (-1)) (hi := 1245) e56 r_10 p53.1 (by decide)).1
        refine q_bipush (pc := 57) hG dX12_readsTwo_57 kb_48 ?_
        refine q_isub (pc := 59) hG dX12_readsTwo_59 (fun v59 e59 => ?_)
        have r_11 := (q_addN (lo := (-1)) (hi := 1245) e56 r_10 p53.1 (by decide)).2
        replace hF := fx_sub hF rfl tl_48 (q_subN (lo := (-49)) (hi := 1197) e59 r_11 rl_48 (by decide)).1
        have r_12 := (q_subN (lo := (-49)) (hi := 1197) e59 r_11 rl_48 (by decide)).2
        refine q_putI (pc := 60) hG fl_X12_143 dX12_readsTwo_60 hS27 tA0 ff_10_8 r_12 (by decide) rfl (fun s60 u60 w60 => ?_)
        replace hF := fx_P hF u60 rfl rfl
        have m60 : s60 a0 8 = .int v59 := by rw [u60]; exact q_up_same
        refine q_aload_n (pc := 63) hG dX12_readsTwo_63 0 rfl ?_
        refine q_aload_n (pc := 64) hG dX12_readsTwo_64 0 rfl ?_
        refine q_getV (pc := 65) (v := .int F27) hG fl_X12_126 dX12_readsTwo_65 tA0 (by rw [u60]; exact (q_up_else (Or.inr (by decide))).trans iF27.1) ?_
        refine q_iconst (pc := 68) hG dX12_readsTwo_68 ki_1 ?_
        refine q_iadd (pc := 69) hG dX12_readsTwo_69 (fun v69 e69 => ?_)
        replace hF := fx_add hF rfl tl_1 (q_addN (lo := 1) (hi := 261) e69 iF27.2 rl_1 (by decide)).1
        have r_13 := q_neL (c := 1) p28.1 c31 (by decide)
        have r_14 := q_neL (c := 1) p6.1 c9 (by decide)
        have r_15 := (q_addN (lo := 1) (hi := 261) e69 iF27.2 rl_1 (by decide)).2
        refine q_putI (pc := 70) hG fl_X12_126 dX12_readsTwo_70 w60 tA0 ff_10_5 (show q_r v69 0 260 from ⟨(by have o0 := (q_addN (lo := 1) (hi := 261) e69 iF27.2 rl_1 (by decide)).1; have o1 := iR27; have o2 := iD27; have o3 := (p28.2.2.1 F27 iF27.1); have o4 := p28.2.2.2; have o5 := c31; have o6 := (q_addN (lo := 2) (hi := 262) e40 q_1r rl_2 (by decide)).1; have o7 := c41; have o8 := (by have q := (q_mulN (lo := 0) (hi := 990) e51 rl_10 iG27.2 (by decide)).1; rw [tl_10] at q; exact q); have o9 := (p53.2.2.1 F27 iF27.1); have o10 := p53.2.2.2; have o11 := (q_addN (lo := (-1)) (hi := 1245) e56 r_10 p53.1 (by decide)).1; have o12 := (q_subN (lo := (-49)) (hi := 1197) e59 r_11 rl_48 (by decide)).1; have o13 := (p6.2.2.1 q_1v q_1f); have o14 := p6.2.2.2; have o15 := c9; have o16 := iF27.2; have o17 := iG27.2; have o18 := q_1r; have o19 := r_13; have o20 := r_9; have o21 := r_10; have o22 := p53.1; have o23 := r_11; have o24 := r_12; have o25 := r_14; have o26 := r_15; have l27 := tl_1; have l28 := tl_2; have l29 := tl_48; unfold q_r at o16 o17 o18 o19 o20 o21 o22 o23 o24 o25 o26; omega), (by have o0 := (q_addN (lo := 1) (hi := 261) e69 iF27.2 rl_1 (by decide)).1; have o1 := iR27; have o2 := iD27; have o3 := (p28.2.2.1 F27 iF27.1); have o4 := p28.2.2.2; have o5 := c31; have o6 := (q_addN (lo := 2) (hi := 262) e40 q_1r rl_2 (by decide)).1; have o7 := c41; have o8 := (by have q := (q_mulN (lo := 0) (hi := 990) e51 rl_10 iG27.2 (by decide)).1; rw [tl_10] at q; exact q); have o9 := (p53.2.2.1 F27 iF27.1); have o10 := p53.2.2.2; have o11 := (q_addN (lo := (-1)) (hi := 1245) e56 r_10 p53.1 (by decide)).1; have o12 := (q_subN (lo := (-49)) (hi := 1197) e59 r_11 rl_48 (by decide)).1; have o13 := (p6.2.2.1 q_1v q_1f); have o14 := p6.2.2.2; have o15 := c9; have o16 := iF27.2; have o17 := iG27.2; have o18 := q_1r; have o19 := r_13; have o20 := r_9; have o21 := r_10; have o22 := p53.1; have o23 := r_11; have o24 := r_12; have o25 := r_14; have o26 := r_15; have l27 := tl_1; have l28 := tl_2; have l29 := tl_48; unfold q_r at o16 o17 o18 o19 o20 o21 o22 o23 o24 o25 o26; omega)⟩) (by decide) rfl (fun s70 u70 w70 => ?_)
        replace hF := fx_P hF u70 rfl rfl
        have m70 : s70 a0 5 = .int v69 := by rw [u70]; exact q_up_same
        refine q_goto (pc := 73) 27 hG dX12_readsTwo_73 rfl ?_
        refine q_lv [0, 1] rfl ?_
        exact ih27 s70 v69 v59 w70 ⟨m70, (show q_r v69 0 260 from ⟨(by have o0 := (q_addN (lo := 1) (hi := 261) e69 iF27.2 rl_1 (by decide)).1; have o1 := iR27; have o2 := iD27; have o3 := (p28.2.2.1 F27 iF27.1); have o4 := p28.2.2.2; have o5 := c31; have o6 := (q_addN (lo := 2) (hi := 262) e40 q_1r rl_2 (by decide)).1; have o7 := c41; have o8 := (by have q := (q_mulN (lo := 0) (hi := 990) e51 rl_10 iG27.2 (by decide)).1; rw [tl_10] at q; exact q); have o9 := (p53.2.2.1 F27 iF27.1); have o10 := p53.2.2.2; have o11 := (q_addN (lo := (-1)) (hi := 1245) e56 r_10 p53.1 (by decide)).1; have o12 := (q_subN (lo := (-49)) (hi := 1197) e59 r_11 rl_48 (by decide)).1; have o13 := (p6.2.2.1 q_1v q_1f); have o14 := p6.2.2.2; have o15 := c9; have o16 := iF27.2; have o17 := iG27.2; have o18 := q_1r; have o19 := r_13; have o20 := r_9; have o21 := r_10; have o22 := p53.1; have o23 := r_11; have o24 := r_12; have o25 := r_14; have o26 := r_15; have l27 := tl_1; have l28 := tl_2; have l29 := tl_48; unfold q_r at o16 o17 o18 o19 o20 o21 o22 o23 o24 o25 o26; omega), (by have o0 := (q_addN (lo := 1) (hi := 261) e69 iF27.2 rl_1 (by decide)).1; have o1 := iR27; have o2 := iD27; have o3 := (p28.2.2.1 F27 iF27.1); have o4 := p28.2.2.2; have o5 := c31; have o6 := (q_addN (lo := 2) (hi := 262) e40 q_1r rl_2 (by decide)).1; have o7 := c41; have o8 := (by have q := (q_mulN (lo := 0) (hi := 990) e51 rl_10 iG27.2 (by decide)).1; rw [tl_10] at q; exact q); have o9 := (p53.2.2.1 F27 iF27.1); have o10 := p53.2.2.2; have o11 := (q_addN (lo := (-1)) (hi := 1245) e56 r_10 p53.1 (by decide)).1; have o12 := (q_subN (lo := (-49)) (hi := 1197) e59 r_11 rl_48 (by decide)).1; have o13 := (p6.2.2.1 q_1v q_1f); have o14 := p6.2.2.2; have o15 := c9; have o16 := iF27.2; have o17 := iG27.2; have o18 := q_1r; have o19 := r_13; have o20 := r_9; have o21 := r_10; have o22 := p53.1; have o23 := r_11; have o24 := r_12; have o25 := r_14; have o26 := r_15; have l27 := tl_1; have l28 := tl_2; have l29 := tl_48; unfold q_r at o16 o17 o18 o19 o20 o21 o22 o23 o24 o25 o26; omega)⟩)⟩ (by have o0 := (p6.2.2.1 q_1v q_1f); have o1 := p6.2.2.2; have o2 := c9; have o3 := iR27; have o4 := iD27; have o5 := (p28.2.2.1 F27 iF27.1); have o6 := p28.2.2.2; have o7 := c31; have o8 := (q_addN (lo := 2) (hi := 262) e40 q_1r rl_2 (by decide)).1; have o9 := c41; have o10 := (by have q := (q_mulN (lo := 0) (hi := 990) e51 rl_10 iG27.2 (by decide)).1; rw [tl_10] at q; exact q); have o11 := (p53.2.2.1 F27 iF27.1); have o12 := p53.2.2.2; have o13 := (q_addN (lo := (-1)) (hi := 1245) e56 r_10 p53.1 (by decide)).1; have o14 := (q_subN (lo := (-49)) (hi := 1197) e59 r_11 rl_48 (by decide)).1; have o15 := (q_addN (lo := 1) (hi := 261) e69 iF27.2 rl_1 (by decide)).1; have o16 := iF27.2; have o17 := iG27.2; have o18 := q_1r; have o19 := r_13; have o20 := r_9; have o21 := r_10; have o22 := p53.1; have o23 := r_11; have o24 := r_12; have o25 := r_14; have o26 := r_15; have l27 := tl_1; have l28 := tl_2; have l29 := tl_48; unfold q_r at o16 o17 o18 o19 o20 o21 o22 o23 o24 o25 o26; omega) ⟨(by rw [u70]; exact (q_up_else (Or.inr (by decide))).trans m60), (show q_r v59 0 99 from ⟨(by have o0 := (q_subN (lo := (-49)) (hi := 1197) e59 r_11 rl_48 (by decide)).1; have o1 := (q_addN (lo := (-1)) (hi := 1245) e56 r_10 p53.1 (by decide)).1; have o2 := (by have q := (q_mulN (lo := 0) (hi := 990) e51 rl_10 iG27.2 (by decide)).1; rw [tl_10] at q; exact q); have o3 := (p53.2.2.1 F27 iF27.1); have o4 := p53.2.2.2; have o5 := (q_addN (lo := 1) (hi := 261) e69 iF27.2 rl_1 (by decide)).1; have o6 := iR27; have o7 := iD27; have o8 := (p28.2.2.1 F27 iF27.1); have o9 := p28.2.2.2; have o10 := c31; have o11 := (q_addN (lo := 2) (hi := 262) e40 q_1r rl_2 (by decide)).1; have o12 := c41; have o13 := (p6.2.2.1 q_1v q_1f); have o14 := p6.2.2.2; have o15 := c9; have o16 := iF27.2; have o17 := iG27.2; have o18 := q_1r; have o19 := r_13; have o20 := r_9; have o21 := r_10; have o22 := p53.1; have o23 := r_11; have o24 := r_12; have o25 := r_14; have o26 := r_15; have l27 := tl_1; have l28 := tl_2; have l29 := tl_48; unfold q_r at o16 o17 o18 o19 o20 o21 o22 o23 o24 o25 o26; omega), (by have o0 := (q_subN (lo := (-49)) (hi := 1197) e59 r_11 rl_48 (by decide)).1; have o1 := (q_addN (lo := (-1)) (hi := 1245) e56 r_10 p53.1 (by decide)).1; have o2 := (by have q := (q_mulN (lo := 0) (hi := 990) e51 rl_10 iG27.2 (by decide)).1; rw [tl_10] at q; exact q); have o3 := (p53.2.2.1 F27 iF27.1); have o4 := p53.2.2.2; have o5 := (q_addN (lo := 1) (hi := 261) e69 iF27.2 rl_1 (by decide)).1; have o6 := iR27; have o7 := iD27; have o8 := (p28.2.2.1 F27 iF27.1); have o9 := p28.2.2.2; have o10 := c31; have o11 := (q_addN (lo := 2) (hi := 262) e40 q_1r rl_2 (by decide)).1; have o12 := c41; have o13 := (p6.2.2.1 q_1v q_1f); have o14 := p6.2.2.2; have o15 := c9; have o16 := iF27.2; have o17 := iG27.2; have o18 := q_1r; have o19 := r_13; have o20 := r_9; have o21 := r_10; have o22 := p53.1; have o23 := r_11; have o24 := r_12; have o25 := r_14; have o26 := r_15; have l27 := tl_1; have l28 := tl_2; have l29 := tl_48; unfold q_r at o16 o17 o18 o19 o20 o21 o22 o23 o24 o25 o26; omega)⟩)⟩ (by have o0 := (p6.2.2.1 q_1v q_1f); have o1 := p6.2.2.2; have o2 := c9; have o3 := iR27; have o4 := iD27; have o5 := (p28.2.2.1 F27 iF27.1); have o6 := p28.2.2.2; have o7 := c31; have o8 := (q_addN (lo := 2) (hi := 262) e40 q_1r rl_2 (by decide)).1; have o9 := c41; have o10 := (by have q := (q_mulN (lo := 0) (hi := 990) e51 rl_10 iG27.2 (by decide)).1; rw [tl_10] at q; exact q); have o11 := (p53.2.2.1 F27 iF27.1); have o12 := p53.2.2.2; have o13 := (q_addN (lo := (-1)) (hi := 1245) e56 r_10 p53.1 (by decide)).1; have o14 := (q_subN (lo := (-49)) (hi := 1197) e59 r_11 rl_48 (by decide)).1; have o15 := (q_addN (lo := 1) (hi := 261) e69 iF27.2 rl_1 (by decide)).1; have o16 := iF27.2; have o17 := iG27.2; have o18 := q_1r; have o19 := r_13; have o20 := r_9; have o21 := r_10; have o22 := p53.1; have o23 := r_11; have o24 := r_12; have o25 := r_14; have o26 := r_15; have l27 := tl_1; have l28 := tl_2; have l29 := tl_48; unfold q_r at o16 o17 o18 o19 o20 o21 o22 o23 o24 o25 o26; omega) hF (q_measU hm27 (by have o0 := iR27; have o1 := iD27; have o2 := (p28.2.2.1 F27 iF27.1); have o3 := p28.2.2.2; have o4 := c31; have o5 := (q_addN (lo := 2) (hi := 262) e40 q_1r rl_2 (by decide)).1; have o6 := c41; have o7 := (by have q := (q_mulN (lo := 0) (hi := 990) e51 rl_10 iG27.2 (by decide)).1; rw [tl_10] at q; exact q); have o8 := (p53.2.2.1 F27 iF27.1); have o9 := p53.2.2.2; have o10 := (q_addN (lo := (-1)) (hi := 1245) e56 r_10 p53.1 (by decide)).1; have o11 := (q_subN (lo := (-49)) (hi := 1197) e59 r_11 rl_48 (by decide)).1; have o12 := (q_addN (lo := 1) (hi := 261) e69 iF27.2 rl_1 (by decide)).1; have o13 := (p6.2.2.1 q_1v q_1f); have o14 := p6.2.2.2; have o15 := c9; have o16 := iF27.2; have o17 := iG27.2; have o18 := q_1r; have o19 := r_13; have o20 := r_9; have o21 := r_10; have o22 := p53.1; have o23 := r_11; have o24 := r_12; have o25 := r_14; have o26 := r_15; have l27 := tl_1; have l28 := tl_2; have l29 := tl_48; unfold q_r at o16 o17 o18 o19 o20 o21 o22 o23 o24 o25 o26; omega) (by have o0 := (q_addN (lo := 1) (hi := 261) e69 iF27.2 rl_1 (by decide)).1; have o1 := iR27; have o2 := iD27; have o3 := (p28.2.2.1 F27 iF27.1); have o4 := p28.2.2.2; have o5 := c31; have o6 := (q_addN (lo := 2) (hi := 262) e40 q_1r rl_2 (by decide)).1; have o7 := c41; have o8 := (by have q := (q_mulN (lo := 0) (hi := 990) e51 rl_10 iG27.2 (by decide)).1; rw [tl_10] at q; exact q); have o9 := (p53.2.2.1 F27 iF27.1); have o10 := p53.2.2.2; have o11 := (q_addN (lo := (-1)) (hi := 1245) e56 r_10 p53.1 (by decide)).1; have o12 := (q_subN (lo := (-49)) (hi := 1197) e59 r_11 rl_48 (by decide)).1; have o13 := (p6.2.2.1 q_1v q_1f); have o14 := p6.2.2.2; have o15 := c9; have o16 := iF27.2; have o17 := iG27.2; have o18 := q_1r; have o19 := r_13; have o20 := r_9; have o21 := r_10; have o22 := p53.1; have o23 := r_11; have o24 := r_12; have o25 := r_14; have o26 := r_15; have l27 := tl_1; have l28 := tl_2; have l29 := tl_48; unfold q_r at o16 o17 o18 o19 o20 o21 o22 o23 o24 o25 o26; omega))
    refine q_lv [1, 0] rfl ?_
    have r_16 := q_neL (c := 1) p6.1 c9 (by decide)
    exact J27 ((260 - q_1v.toInt).toNat + 1) s24 q_1v 0 w24 ⟨(by rw [u24]; exact (q_up_else (Or.inr (by decide))).trans q_1f), q_1r⟩ (by have o0 := (p6.2.2.1 q_1v q_1f); have o1 := p6.2.2.2; have o2 := c9; have o3 := q_1r; have o4 := r_16; unfold q_r at o3 o4; omega) ⟨m24, (q_r.mono rl_0 (by decide))⟩ (by have o0 := (p6.2.2.1 q_1v q_1f); have o1 := p6.2.2.2; have o2 := c9; have o3 := q_1r; have o4 := r_16; have l5 := tl_0; unfold q_r at o3 o4; omega) (by rw [tl_0]; exact hF) (Nat.lt_succ_self _)
  intro c9
  replace hF := fx_eq1 hF rfl rfl c9
  refine q_aload_n (pc := 12) hG dX12_readsTwo_12 1 rfl ?_
  refine q_iconst (pc := 13) hG dX12_readsTwo_13 ki_1 ?_
  refine q_aload_n (pc := 14) hG dX12_readsTwo_14 1 rfl ?_
  refine q_getV (pc := 15) (v := .int q_1v) hG fl_X12_126 dX12_readsTwo_15 tA0 q_1f ?_
  refine q_cVi (pc := 18) [.int 1, .int q_1v] [] hG (c_X12_wrongAt τ σ a0 1 q_1v hI tA0) my_X12_wrongAt mv_X12_wrongAt w888 dX12_readsTwo_18 tA0 (by decide) rfl rfl (Nat.le_of_ble_eq_true rfl) (by decide) (fun v18 s18 p18 => ?_)
  have w18 := hS0.trans p18.1 rfl
  have fq18 := p18.2.2
  rewrite [tl_1] at fq18
  replace hF := fx_C hF fq18
  have r_17 := q_zeq c9
  exact q_zrt hG hE dX12_readsTwo_21 (q_r.mono p18.2.1 (by decide)) ⟨w18, (q_r.mono p18.2.1 (by decide)), (fx_end hF hF0), (fun x e => by have q := e.symm.trans q_1f; cases q; exact ⟨q_1v, (p18.1.same tA0 rfl q_1f), q_1r, (by have o0 := (p6.2.2.1 q_1v q_1f); have o1 := p6.2.2.2; have o2 := c9; have o3 := q_1r; have o4 := r_17; unfold q_r at o3 o4; omega)⟩), (fun q => absurd q (by have o0 := p18.2.1; unfold q_r at o0; omega))⟩
theorem dX12_readsValue_0 : decode cX12_readsValue 0 = .ok (.aload_n 0, 1) := by decide +kernel
theorem dX12_readsValue_1 : decode cX12_readsValue 1 = .ok (.getfield 126, 3) := by decide +kernel
theorem dX12_readsValue_4 : decode cX12_readsValue 4 = .ok (.istore_n 2, 1) := by decide +kernel
theorem dX12_readsValue_5 : decode cX12_readsValue 5 = .ok (.iload_n 1, 1) := by decide +kernel
theorem dX12_readsValue_6 : decode cX12_readsValue 6 = .ok (.ifCond .eq 16, 3) := by decide +kernel
theorem dX12_readsValue_9 : decode cX12_readsValue 9 = .ok (.aload_n 0, 1) := by decide +kernel
theorem dX12_readsValue_10 : decode cX12_readsValue 10 = .ok (.invokevirtual 132, 3) := by decide +kernel
theorem dX12_readsValue_13 : decode cX12_readsValue 13 = .ok (.bipush 45, 2) := by decide +kernel
theorem dX12_readsValue_15 : decode cX12_readsValue 15 = .ok (.if_icmp .ne 7, 3) := by decide +kernel
theorem dX12_readsValue_18 : decode cX12_readsValue 18 = .ok (.iconst 1, 1) := by decide +kernel
theorem dX12_readsValue_19 : decode cX12_readsValue 19 = .ok (.goto 4, 3) := by decide +kernel
theorem dX12_readsValue_22 : decode cX12_readsValue 22 = .ok (.iconst 0, 1) := by decide +kernel
theorem dX12_readsValue_23 : decode cX12_readsValue 23 = .ok (.istore_n 3, 1) := by decide +kernel
theorem dX12_readsValue_24 : decode cX12_readsValue 24 = .ok (.iload_n 3, 1) := by decide +kernel
theorem dX12_readsValue_25 : decode cX12_readsValue 25 = .ok (.ifCond .eq 13, 3) := by decide +kernel
theorem dX12_readsValue_28 : decode cX12_readsValue 28 = .ok (.aload_n 0, 1) := by decide +kernel
theorem dX12_readsValue_29 : decode cX12_readsValue 29 = .ok (.aload_n 0, 1) := by decide +kernel
theorem dX12_readsValue_30 : decode cX12_readsValue 30 = .ok (.getfield 126, 3) := by decide +kernel
theorem dX12_readsValue_33 : decode cX12_readsValue 33 = .ok (.iconst 1, 1) := by decide +kernel
theorem dX12_readsValue_34 : decode cX12_readsValue 34 = .ok (.iadd, 1) := by decide +kernel
theorem dX12_readsValue_35 : decode cX12_readsValue 35 = .ok (.putfield 126, 3) := by decide +kernel
theorem dX12_readsValue_38 : decode cX12_readsValue 38 = .ok (.aload_n 0, 1) := by decide +kernel
theorem dX12_readsValue_39 : decode cX12_readsValue 39 = .ok (.getfield 126, 3) := by decide +kernel
theorem dX12_readsValue_42 : decode cX12_readsValue 42 = .ok (.istore 4, 2) := by decide +kernel
theorem dX12_readsValue_44 : decode cX12_readsValue 44 = .ok (.aload_n 0, 1) := by decide +kernel
theorem dX12_readsValue_45 : decode cX12_readsValue 45 = .ok (.invokevirtual 205, 3) := by decide +kernel
theorem dX12_readsValue_48 : decode cX12_readsValue 48 = .ok (.ifCond .ne 5, 3) := by decide +kernel
theorem dX12_readsValue_51 : decode cX12_readsValue 51 = .ok (.iconst 0, 1) := by decide +kernel
theorem dX12_readsValue_52 : decode cX12_readsValue 52 = .ok (.ireturn, 1) := by decide +kernel
theorem dX12_readsValue_53 : decode cX12_readsValue 53 = .ok (.iload_n 3, 1) := by decide +kernel
theorem dX12_readsValue_54 : decode cX12_readsValue 54 = .ok (.ifCond .eq 18, 3) := by decide +kernel
theorem dX12_readsValue_57 : decode cX12_readsValue 57 = .ok (.aload_n 0, 1) := by decide +kernel
theorem dX12_readsValue_58 : decode cX12_readsValue 58 = .ok (.getfield 143, 3) := by decide +kernel
theorem dX12_readsValue_61 : decode cX12_readsValue 61 = .ok (.ifCond .ne 11, 3) := by decide +kernel
theorem dX12_readsValue_64 : decode cX12_readsValue 64 = .ok (.aload_n 0, 1) := by decide +kernel
theorem dX12_readsValue_65 : decode cX12_readsValue 65 = .ok (.iconst 1, 1) := by decide +kernel
theorem dX12_readsValue_66 : decode cX12_readsValue 66 = .ok (.iload 4, 2) := by decide +kernel
theorem dX12_readsValue_68 : decode cX12_readsValue 68 = .ok (.invokevirtual 139, 3) := by decide +kernel
theorem dX12_readsValue_71 : decode cX12_readsValue 71 = .ok (.ireturn, 1) := by decide +kernel
theorem dX12_readsValue_72 : decode cX12_readsValue 72 = .ok (.iload_n 3, 1) := by decide +kernel
theorem dX12_readsValue_73 : decode cX12_readsValue 73 = .ok (.ifCond .eq 11, 3) := by decide +kernel
theorem dX12_readsValue_76 : decode cX12_readsValue 76 = .ok (.aload_n 0, 1) := by decide +kernel
theorem dX12_readsValue_77 : decode cX12_readsValue 77 = .ok (.getfield 143, 3) := by decide +kernel
theorem dX12_readsValue_80 : decode cX12_readsValue 80 = .ok (.ineg, 1) := by decide +kernel
theorem dX12_readsValue_81 : decode cX12_readsValue 81 = .ok (.goto 7, 3) := by decide +kernel
theorem dX12_readsValue_84 : decode cX12_readsValue 84 = .ok (.aload_n 0, 1) := by decide +kernel
theorem dX12_readsValue_85 : decode cX12_readsValue 85 = .ok (.getfield 143, 3) := by decide +kernel
theorem dX12_readsValue_88 : decode cX12_readsValue 88 = .ok (.istore 5, 2) := by decide +kernel
theorem dX12_readsValue_90 : decode cX12_readsValue 90 = .ok (.iconst 1, 1) := by decide +kernel
theorem dX12_readsValue_91 : decode cX12_readsValue 91 = .ok (.istore 6, 2) := by decide +kernel
theorem dX12_readsValue_93 : decode cX12_readsValue 93 = .ok (.aload_n 0, 1) := by decide +kernel
theorem dX12_readsValue_94 : decode cX12_readsValue 94 = .ok (.invokevirtual 132, 3) := by decide +kernel
theorem dX12_readsValue_97 : decode cX12_readsValue 97 = .ok (.bipush 42, 2) := by decide +kernel
theorem dX12_readsValue_99 : decode cX12_readsValue 99 = .ok (.if_icmp .ne 55, 3) := by decide +kernel
theorem dX12_readsValue_102 : decode cX12_readsValue 102 = .ok (.aload_n 0, 1) := by decide +kernel
theorem dX12_readsValue_103 : decode cX12_readsValue 103 = .ok (.aload_n 0, 1) := by decide +kernel
theorem dX12_readsValue_104 : decode cX12_readsValue 104 = .ok (.getfield 126, 3) := by decide +kernel
theorem dX12_readsValue_107 : decode cX12_readsValue 107 = .ok (.iconst 1, 1) := by decide +kernel
theorem dX12_readsValue_108 : decode cX12_readsValue 108 = .ok (.iadd, 1) := by decide +kernel
theorem dX12_readsValue_109 : decode cX12_readsValue 109 = .ok (.putfield 126, 3) := by decide +kernel
theorem dX12_readsValue_112 : decode cX12_readsValue 112 = .ok (.aload_n 0, 1) := by decide +kernel
theorem dX12_readsValue_113 : decode cX12_readsValue 113 = .ok (.getfield 126, 3) := by decide +kernel
theorem dX12_readsValue_116 : decode cX12_readsValue 116 = .ok (.istore 4, 2) := by decide +kernel
theorem dX12_readsValue_118 : decode cX12_readsValue 118 = .ok (.aload_n 0, 1) := by decide +kernel
theorem dX12_readsValue_119 : decode cX12_readsValue 119 = .ok (.invokevirtual 205, 3) := by decide +kernel
theorem dX12_readsValue_122 : decode cX12_readsValue 122 = .ok (.ifCond .ne 5, 3) := by decide +kernel
theorem dX12_readsValue_125 : decode cX12_readsValue 125 = .ok (.iconst 0, 1) := by decide +kernel
theorem dX12_readsValue_126 : decode cX12_readsValue 126 = .ok (.ireturn, 1) := by decide +kernel
theorem dX12_readsValue_127 : decode cX12_readsValue 127 = .ok (.aload_n 0, 1) := by decide +kernel
theorem dX12_readsValue_128 : decode cX12_readsValue 128 = .ok (.getfield 143, 3) := by decide +kernel
theorem dX12_readsValue_131 : decode cX12_readsValue 131 = .ok (.iconst 2, 1) := by decide +kernel
theorem dX12_readsValue_132 : decode cX12_readsValue 132 = .ok (.bipush 64, 2) := by decide +kernel
theorem dX12_readsValue_134 : decode cX12_readsValue 134 = .ok (.invokestatic 102, 3) := by decide +kernel
theorem dX12_readsValue_137 : decode cX12_readsValue 137 = .ok (.ifCond .ne 11, 3) := by decide +kernel
theorem dX12_readsValue_140 : decode cX12_readsValue 140 = .ok (.aload_n 0, 1) := by decide +kernel
theorem dX12_readsValue_141 : decode cX12_readsValue 141 = .ok (.iconst 3, 1) := by decide +kernel
theorem dX12_readsValue_142 : decode cX12_readsValue 142 = .ok (.iload 4, 2) := by decide +kernel
theorem dX12_readsValue_144 : decode cX12_readsValue 144 = .ok (.invokevirtual 139, 3) := by decide +kernel
theorem dX12_readsValue_147 : decode cX12_readsValue 147 = .ok (.ireturn, 1) := by decide +kernel
theorem dX12_readsValue_148 : decode cX12_readsValue 148 = .ok (.aload_n 0, 1) := by decide +kernel
theorem dX12_readsValue_149 : decode cX12_readsValue 149 = .ok (.getfield 143, 3) := by decide +kernel
theorem dX12_readsValue_152 : decode cX12_readsValue 152 = .ok (.istore 6, 2) := by decide +kernel
theorem dX12_readsValue_154 : decode cX12_readsValue 154 = .ok (.aload_n 0, 1) := by decide +kernel
theorem dX12_readsValue_155 : decode cX12_readsValue 155 = .ok (.getfield 208, 3) := by decide +kernel
theorem dX12_readsValue_158 : decode cX12_readsValue 158 = .ok (.iload 6, 2) := by decide +kernel
theorem dX12_readsValue_160 : decode cX12_readsValue 160 = .ok (.iadd, 1) := by decide +kernel
theorem dX12_readsValue_161 : decode cX12_readsValue 161 = .ok (.aload_n 0, 1) := by decide +kernel
theorem dX12_readsValue_162 : decode cX12_readsValue 162 = .ok (.getfield 7, 3) := by decide +kernel
theorem dX12_readsValue_165 : decode cX12_readsValue 165 = .ok (.sipush 512, 3) := by decide +kernel
theorem dX12_readsValue_168 : decode cX12_readsValue 168 = .ok (.iaload, 1) := by decide +kernel
theorem dX12_readsValue_169 : decode cX12_readsValue 169 = .ok (.if_icmp .le 11, 3) := by decide +kernel
theorem dX12_readsValue_172 : decode cX12_readsValue 172 = .ok (.aload_n 0, 1) := by decide +kernel
theorem dX12_readsValue_173 : decode cX12_readsValue 173 = .ok (.bipush 6, 2) := by decide +kernel
theorem dX12_readsValue_175 : decode cX12_readsValue 175 = .ok (.iload_n 2, 1) := by decide +kernel
theorem dX12_readsValue_176 : decode cX12_readsValue 176 = .ok (.invokevirtual 139, 3) := by decide +kernel
theorem dX12_readsValue_179 : decode cX12_readsValue 179 = .ok (.ireturn, 1) := by decide +kernel
theorem dX12_readsValue_180 : decode cX12_readsValue 180 = .ok (.iconst 0, 1) := by decide +kernel
theorem dX12_readsValue_181 : decode cX12_readsValue 181 = .ok (.istore 7, 2) := by decide +kernel
theorem dX12_readsValue_183 : decode cX12_readsValue 183 = .ok (.iload 7, 2) := by decide +kernel
theorem dX12_readsValue_185 : decode cX12_readsValue 185 = .ok (.iload 6, 2) := by decide +kernel
theorem dX12_readsValue_187 : decode cX12_readsValue 187 = .ok (.if_icmp .ge 23, 3) := by decide +kernel
theorem dX12_readsValue_190 : decode cX12_readsValue 190 = .ok (.aload_n 0, 1) := by decide +kernel
theorem dX12_readsValue_191 : decode cX12_readsValue 191 = .ok (.getfield 56, 3) := by decide +kernel
theorem dX12_readsValue_194 : decode cX12_readsValue 194 = .ok (.aload_n 0, 1) := by decide +kernel
theorem dX12_readsValue_195 : decode cX12_readsValue 195 = .ok (.getfield 208, 3) := by decide +kernel
theorem dX12_readsValue_198 : decode cX12_readsValue 198 = .ok (.iload 7, 2) := by decide +kernel
theorem dX12_readsValue_200 : decode cX12_readsValue 200 = .ok (.iadd, 1) := by decide +kernel
theorem dX12_readsValue_201 : decode cX12_readsValue 201 = .ok (.iload 5, 2) := by decide +kernel
theorem dX12_readsValue_203 : decode cX12_readsValue 203 = .ok (.iastore, 1) := by decide +kernel
theorem dX12_readsValue_204 : decode cX12_readsValue 204 = .ok (.iinc 7 1, 3) := by decide +kernel
theorem dX12_readsValue_207 : decode cX12_readsValue 207 = .ok (.goto (-24), 3) := by decide +kernel
theorem dX12_readsValue_210 : decode cX12_readsValue 210 = .ok (.aload_n 0, 1) := by decide +kernel
theorem dX12_readsValue_211 : decode cX12_readsValue 211 = .ok (.aload_n 0, 1) := by decide +kernel
theorem dX12_readsValue_212 : decode cX12_readsValue 212 = .ok (.getfield 208, 3) := by decide +kernel
theorem dX12_readsValue_215 : decode cX12_readsValue 215 = .ok (.iload 6, 2) := by decide +kernel
theorem dX12_readsValue_217 : decode cX12_readsValue 217 = .ok (.iadd, 1) := by decide +kernel
theorem dX12_readsValue_218 : decode cX12_readsValue 218 = .ok (.putfield 208, 3) := by decide +kernel
theorem dX12_readsValue_221 : decode cX12_readsValue 221 = .ok (.iconst 1, 1) := by decide +kernel
theorem dX12_readsValue_222 : decode cX12_readsValue 222 = .ok (.ireturn, 1) := by decide +kernel
def md_X12_readsValue : List (Nat × Nat) := [(10, 5), (10, 7), (10, 8), (10, 14), (161, 0)]
set_option maxRecDepth 100000 in
set_option maxHeartbeats 4000000 in
theorem c_X12_readsValue {l : Launch} {D : q_D} (τ : q_T) (σ : q_V) (a0 : Nat) (x1 : Int32) (hI : q_I τ σ) (tA0 : τ a0 = some (10, 1)) (rA1 : q_r x1 0 1) : q_Ci l D yX12_readsValue cX12_readsValue 8 (some .boolean) 3 61 τ σ [.ref a0, .int x1] (fun r σ1 => q_S md_X12_readsValue τ σ σ1 ∧ (q_r r 0 1) ∧ ((r.toInt, fx_N σ1) = f_X12_readsValue (fx_N σ) a0 x1.toInt) ∧ (∀ x : Int32, σ a0 5 = .int x → ∃ y : Int32, σ1 a0 5 = .int y ∧ q_r y 0 260 ∧ x.toInt ≤ y.toInt)) := by
  refine q_meti rfl (Nat.le_of_ble_eq_true rfl) (fun X hG hE => ?_)
  show q_O X 0 0 τ σ 0 [(0, .ref a0), (1, .int x1)] []
  have hS0 : q_S md_X12_readsValue τ σ σ := q_S.rf hI
  obtain ⟨Fv, hF⟩ : ∃ z, fx_eq z (f_X12_readsValue (fx_N σ) a0 x1.toInt) := ⟨_, fx_rf⟩
  have hF0 := hF
  unfold f_X12_readsValue at hF
  obtain ⟨q_1v, q_1f, q_1r⟩ := (hI a0 10 1 tA0 5 (by decide)).int ff_10_5
  replace hF := fx_I hF q_1f rfl
  refine q_aload_n (pc := 0) hG dX12_readsValue_0 0 rfl ?_
  refine q_getV (pc := 1) (v := .int q_1v) hG fl_X12_126 dX12_readsValue_1 tA0 q_1f ?_
  refine q_istore_n (pc := 4) [(2, .int q_1v), (0, .ref a0), (1, .int x1)] hG dX12_readsValue_4 (by decide) rfl ?_
  refine q_iload_n (pc := 5) hG dX12_readsValue_5 2 rfl ?_
  have J23 : ∀ (p23_s0 : Int32), (q_r p23_s0 0 1) → (p23_s0.toInt = 0 ∨ q_1v.toInt ≤ 259) → (fx_eq Fv (kJ_X12_readsValue_23 a0 q_1v.toInt (fx_N σ) p23_s0.toInt)) → q_O X 0 0 τ σ 23 [(0, .ref a0), (2, .int q_1v)] [.int p23_s0] := by
    intro p23_s0 r23_s0 iL23 hF
    unfold kJ_X12_readsValue_23 at hF
    refine q_istore_n (pc := 23) [(3, .int p23_s0), (0, .ref a0), (2, .int q_1v)] hG dX12_readsValue_23 (by decide) rfl ?_
    refine q_iload_n (pc := 24) hG dX12_readsValue_24 0 rfl ?_
    have J38 : ∀ (σ38 : q_V) (F38 : Int32), (q_S md_X12_readsValue τ σ σ38) → (σ38 a0 5 = .int F38 ∧ q_r F38 0 260) → (q_1v.toInt ≤ F38.toInt) → (fx_eq Fv (kJ_X12_readsValue_38 a0 p23_s0.toInt q_1v.toInt (fx_N σ38) F38.toInt)) → q_O X 0 0 τ σ38 38 [(0, .ref a0), (2, .int q_1v), (3, .int p23_s0)] [] := by
      intro σ38 F38 hS38 iF38 iR38 hF
      unfold kJ_X12_readsValue_38 at hF
      refine q_aload_n (pc := 38) hG dX12_readsValue_38 0 rfl ?_
      refine q_getV (pc := 39) (v := .int F38) hG fl_X12_126 dX12_readsValue_39 tA0 iF38.1 ?_
      refine q_istore (pc := 42) [(4, .int F38), (0, .ref a0), (2, .int q_1v), (3, .int p23_s0)] hG dX12_readsValue_42 (by decide) rfl ?_
      refine q_aload_n (pc := 44) hG dX12_readsValue_44 1 rfl ?_
      refine q_cVi (pc := 45) [] [] hG (c_X12_readsTwo τ σ38 a0 hS38.1 tA0) my_X12_readsTwo mv_X12_readsTwo w882 dX12_readsValue_45 tA0 (by decide) rfl rfl (Nat.le_of_ble_eq_true rfl) (by decide) (fun v45 s45 p45 => ?_)
      have w45 := hS38.trans p45.1 rfl
      replace hF := fx_C hF p45.2.2.1
      obtain ⟨y45, fy45, ry45, ly45⟩ := p45.2.2.2.1 F38 iF38.1
      replace hF := fx_I hF fy45 rfl
      refine q_if_ne (pc := 48) hG 53 dX12_readsValue_48 rfl ?_ ?_
      · intro c48
        have g_2 := p45.2.2.2.2 (q_one p45.2.1 c48)
        obtain ⟨n45, fn45, rn45⟩ := g_2
        replace hF := fx_eq2 hF rfl rfl c48
        replace hF := fx_I hF fn45 rfl
        refine q_iload_n (pc := 53) hG dX12_readsValue_53 3 rfl ?_
        have J72 : ∀ (F72 : Int32), (s45 a0 5 = .int F72 ∧ q_r F72 0 260) → (q_1v.toInt ≤ F72.toInt) → (fx_eq Fv (kJ_X12_readsValue_72 p23_s0.toInt (fx_N s45) a0 q_1v.toInt n45.toInt F72.toInt)) → q_O X 0 0 τ s45 72 [(0, .ref a0), (2, .int q_1v), (3, .int p23_s0)] [] := by
          intro F72 iF72 iR72 hF
          unfold kJ_X12_readsValue_72 at hF
          refine q_iload_n (pc := 72) hG dX12_readsValue_72 2 rfl ?_
          have J88 : ∀ (p88_s0 : Int32) (F88 : Int32), (q_r p88_s0 (-99) 99) → (s45 a0 5 = .int F88 ∧ q_r F88 0 260) → (q_1v.toInt ≤ F88.toInt) → (fx_eq Fv (kJ_X12_readsValue_88 (fx_N s45) a0 q_1v.toInt p88_s0.toInt F88.toInt)) → q_O X 0 0 τ s45 88 [(0, .ref a0), (2, .int q_1v)] [.int p88_s0] := by
            intro p88_s0 F88 r88_s0 iF88 iR88 hF
            unfold kJ_X12_readsValue_88 at hF
            refine q_istore (pc := 88) [(5, .int p88_s0), (0, .ref a0), (2, .int q_1v)] hG dX12_readsValue_88 (by decide) rfl ?_
            refine q_iconst (pc := 90) hG dX12_readsValue_90 ki_1 ?_
            refine q_istore (pc := 91) [(6, .int 1), (5, .int p88_s0), (0, .ref a0), (2, .int q_1v)] hG dX12_readsValue_91 (by decide) rfl ?_
            refine q_aload_n (pc := 93) hG dX12_readsValue_93 2 rfl ?_
            refine q_pV (pc := 94) [] [] hG (c_X12_here τ s45 a0 w45.1 tA0) my_X12_here mv_X12_here w879 dX12_readsValue_94 tA0 (by decide) rfl rfl (Nat.le_of_ble_eq_true rfl) (by decide) (fun v94 p94 => ?_)
            replace hF := fx_E hF p94.2.1
            refine q_bipush (pc := 97) hG dX12_readsValue_97 kb_42 ?_
            have J154 : ∀ (p154_6 : Int32) (σ154 : q_V) (F154 : Int32), (q_r p154_6 1 64) → (q_S md_X12_readsValue τ σ σ154) → (σ154 a0 5 = .int F154 ∧ q_r F154 0 260) → (q_1v.toInt ≤ F154.toInt) → (fx_eq Fv (kJ_X12_readsValue_154 a0 q_1v.toInt p88_s0.toInt p154_6.toInt (fx_N σ154) F154.toInt)) → q_O X 0 0 τ σ154 154 [(0, .ref a0), (2, .int q_1v), (5, .int p88_s0), (6, .int p154_6)] [] := by
              intro p154_6 σ154 F154 r154_6 hS154 iF154 iR154 hF
              unfold kJ_X12_readsValue_154 at hF
              refine q_aload_n (pc := 154) hG dX12_readsValue_154 0 rfl ?_
              refine q_getI (pc := 155) hG fl_X12_208 dX12_readsValue_155 hS154.1 tA0 ff_10_14 (fun v155 f155 g155 => ?_)
              replace hF := fx_I hF f155 rfl
              refine q_iload (pc := 158) hG dX12_readsValue_158 3 rfl ?_
              refine q_iadd (pc := 160) hG dX12_readsValue_160 (fun v160 e160 => ?_)
              replace hF := fx_add hF rfl rfl (q_addN (lo := 1) (hi := 128) e160 g155 r154_6 (by decide)).1
              refine q_aload_n (pc := 161) hG dX12_readsValue_161 0 rfl ?_
              refine q_getR (pc := 162) (k2 := 100) (n2 := 549) hG fl_X12_7 dX12_readsValue_162 hS154.1 tA0 ff_10_0 (fun b162 f162 T162 => ?_)
              replace hF := fx_R hF f162 rfl
              have f_3 := (hS154.2 _ _ _ _ tA0 rfl).symm.trans f162
              refine q_sipush (pc := 165) hG dX12_readsValue_165 ks_512 ?_
              refine q_naldc (pc := 168) (a1 := 8) (a2 := 64) hG dX12_readsValue_168 hS154.1 T162 (q_ix rl_512 (by decide)) rfl (fun v168 f168 g168 => ?_)
              replace hF := fx_I hF f168 (congrArg Int.toNat tl_512)
              have f_4 := (hS154.2 _ _ _ _ T162 rfl).symm.trans f168
              refine q_icmp_le (pc := 169) hG 180 dX12_readsValue_169 rfl ?_ ?_
              · intro c169
                have r_5 := (q_addN (lo := 1) (hi := 128) e160 g155 r154_6 (by decide)).2
                replace hF := fx_lt2 hF rfl rfl c169
                refine q_iconst (pc := 180) hG dX12_readsValue_180 ki_0 ?_
                refine q_istore (pc := 181) [(7, .int 0), (0, .ref a0), (2, .int q_1v), (5, .int p88_s0), (6, .int p154_6)] hG dX12_readsValue_181 (by decide) rfl ?_
                have J183 : ∀ (n183 : Nat) (p183_7 : Int32) (σ183 : q_V) (F183 : Int32) (G183 : Int32), (q_r p183_7 0 64) → (q_S md_X12_readsValue τ σ σ183) → (σ183 a0 5 = .int F183 ∧ q_r F183 0 260) → (q_1v.toInt ≤ F183.toInt) → (σ183 a0 14 = .int G183 ∧ q_r G183 0 64) → (G183.toInt + p154_6.toInt ≤ 64) → (fx_eq Fv (kL_X12_readsValue_183 p154_6.toInt a0 p88_s0.toInt n183 p183_7.toInt (fx_N σ183) F183.toInt G183.toInt)) → ((64 - p183_7.toInt).toNat < n183) → q_O X 0 0 τ σ183 183 [(0, .ref a0), (5, .int p88_s0), (6, .int p154_6), (7, .int p183_7)] [] := by
                  intro n183
                  induction n183 with
                  | zero => intro p183_7 σ183 F183 G183 r183_7 hS183 iF183 iR183 iG183 iH183 hF hm183; exact absurd hm183 (Nat.not_lt_zero _)
                  | succ n183 ih183 =>
                    intro p183_7 σ183 F183 G183 r183_7 hS183 iF183 iR183 iG183 iH183 hF hm183
                    replace hF := (show fx_eq Fv (kB_X12_readsValue_183 (kL_X12_readsValue_183 p154_6.toInt a0 p88_s0.toInt n183) p154_6.toInt a0 p88_s0.toInt p183_7.toInt (fx_N σ183) F183.toInt G183.toInt) from hF)
                    unfold kB_X12_readsValue_183 at hF
                    refine q_iload (pc := 183) hG dX12_readsValue_183 3 rfl ?_
                    refine q_iload (pc := 185) hG dX12_readsValue_185 2 rfl ?_
                    refine q_icmp_ge (pc := 187) hG 210 dX12_readsValue_187 rfl ?_ ?_
                    · intro c187
                      replace hF := fx_lt2 hF rfl rfl c187
                      refine q_aload_n (pc := 210) hG dX12_readsValue_210 0 rfl ?_
                      refine q_aload_n (pc := 211) hG dX12_readsValue_211 0 rfl ?_
                      refine q_getV (pc := 212) (v := .int G183) hG fl_X12_208 dX12_readsValue_212 tA0 iG183.1 ?_
                      refine q_iload (pc := 215) hG dX12_readsValue_215 2 rfl ?_
                      refine q_iadd (pc := 217) hG dX12_readsValue_217 (fun v217 e217 => ?_)
                      replace hF := fx_add hF rfl rfl (q_addN (lo := 1) (hi := 128) e217 iG183.2 r154_6 (by decide)).1
                      have r_6 := q_rge r183_7 r154_6 c187
                      have r_7 := q_rle r_5 g168 c169
                      have r_8 := (q_addN (lo := 1) (hi := 128) e217 iG183.2 r154_6 (by decide)).2
                      refine q_putI (pc := 218) hG fl_X12_208 dX12_readsValue_218 hS183 tA0 ff_10_14 (show q_r v217 0 64 from ⟨(by have o0 := (q_addN (lo := 1) (hi := 128) e217 iG183.2 r154_6 (by decide)).1; have o1 := (q_addN (lo := 1) (hi := 128) e160 g155 r154_6 (by decide)).1; have o2 := c169; have o3 := iH183; have o4 := c187; have o5 := iG183.2; have o6 := r154_6; have o7 := r_6; have o8 := g155; have o9 := r_7; have o10 := g168; have o11 := r_8; unfold q_r at o5 o6 o7 o8 o9 o10 o11; omega), (by have o0 := (q_addN (lo := 1) (hi := 128) e217 iG183.2 r154_6 (by decide)).1; have o1 := (q_addN (lo := 1) (hi := 128) e160 g155 r154_6 (by decide)).1; have o2 := c169; have o3 := iH183; have o4 := c187; have o5 := iG183.2; have o6 := r154_6; have o7 := r_6; have o8 := g155; have o9 := r_7; have o10 := g168; have o11 := r_8; unfold q_r at o5 o6 o7 o8 o9 o10 o11; omega)⟩) (by decide) rfl (fun s218 u218 w218 => ?_)
                      replace hF := fx_P hF u218 rfl rfl
                      have m218 : s218 a0 14 = .int v217 := by rw [u218]; exact q_up_same
                      refine q_iconst (pc := 221) hG dX12_readsValue_221 ki_1 ?_
                      exact q_zrt hG hE dX12_readsValue_222 (q_r.mono rl_1 (by decide)) ⟨w218, (q_r.mono rl_1 (by decide)), (by rw [tl_1]; exact fx_end hF hF0), (fun x e => by have q := e.symm.trans q_1f; cases q; exact ⟨F183, (by rw [u218]; exact (q_up_else (Or.inr (by decide))).trans iF183.1), iF183.2, (by have o0 := iL23; have o1 := iR38; have o2 := ly45; have o3 := iR72; have o4 := iR88; have o5 := (p94.2.2.1 F88 iF88.1); have o6 := p94.2.2.2; have o7 := iR154; have o8 := iR183; have o9 := iF154.2; have o10 := iF183.2; have o11 := iF38.2; have o12 := iF72.2; have o13 := iF88.2; have o14 := r23_s0; have o15 := q_1r; have o16 := p94.1; have o17 := ry45; unfold q_r at o9 o10 o11 o12 o13 o14 o15 o16 o17; omega)⟩)⟩
                    intro c187
                    replace hF := fx_lt1 hF rfl rfl c187
                    refine q_aload_n (pc := 190) hG dX12_readsValue_190 0 rfl ?_
                    refine q_getR (pc := 191) (k2 := 161) (n2 := 64) hG fl_X12_56 dX12_readsValue_191 hS183.1 tA0 ff_10_26 (fun b191 f191 T191 => ?_)
                    replace hF := fx_R hF f191 rfl
                    have f_9 := (hS183.2 _ _ _ _ tA0 rfl).symm.trans f191
                    refine q_aload_n (pc := 194) hG dX12_readsValue_194 0 rfl ?_
                    refine q_getV (pc := 195) (v := .int G183) hG fl_X12_208 dX12_readsValue_195 tA0 iG183.1 ?_
                    refine q_iload (pc := 198) hG dX12_readsValue_198 3 rfl ?_
                    refine q_iadd (pc := 200) hG dX12_readsValue_200 (fun v200 e200 => ?_)
                    have r_10 := q_rlt r183_7 r154_6 c187 63 (by decide)
                    replace hF := fx_add hF rfl rfl (q_addN (lo := 0) (hi := 127) e200 iG183.2 r_10 (by decide)).1
                    refine q_iload (pc := 201) hG dX12_readsValue_201 1 rfl ?_
                    have r_11 := q_rle r_5 g168 c169
                    have r_12 := (q_addN (lo := 0) (hi := 127) e200 iG183.2 r_10 (by decide)).2
                    refine q_iast (pc := 203) hG dX12_readsValue_203 hS183 ai_161 T191 (by have o0 := (q_addN (lo := 0) (hi := 127) e200 iG183.2 r_10 (by decide)).1; have o1 := iH183; have o2 := c187; have o3 := (q_addN (lo := 1) (hi := 128) e160 g155 r154_6 (by decide)).1; have o4 := c169; have o5 := iG183.2; have o6 := r154_6; have o7 := r_10; have o8 := g155; have o9 := r_11; have o10 := g168; have o11 := r_12; unfold q_r at o5 o6 o7 o8 o9 o10 o11; omega) r88_s0 (by decide) rfl (fun s203 u203 w203 => ?_)
                    replace hF := fx_P hF u203 rfl rfl
                    have m203 : s203 b191 v200.toInt.toNat = .int p88_s0 := by rw [u203]; exact q_up_same
                    obtain ⟨v204, e204⟩ : ∃ z : Int32, z = p183_7 + Int32.ofInt 1 := ⟨_, rfl⟩
                    have h204 := q_incN (lo := 1) (hi := 64) r_10 (by decide) (by decide) e204
                    replace hF := fx_add hF rfl rfl h204.1
                    refine q_iinc (pc := 204) [(7, .int v204), (0, .ref a0), (5, .int p88_s0), (6, .int p154_6)] hG dX12_readsValue_204 3 rfl e204 (by decide) rfl ?_
                    refine q_goto (pc := 207) 183 hG dX12_readsValue_207 rfl ?_
                    refine q_lv [1, 2, 3, 0] rfl ?_
                    exact ih183 v204 s203 F183 G183 (q_r.mono h204.2 (by decide)) w203 ⟨(by rw [u203]; exact (q_keepK tA0 T191 (by decide)).trans iF183.1), iF183.2⟩ (by have o0 := iL23; have o1 := iR38; have o2 := ly45; have o3 := iR72; have o4 := iR88; have o5 := (p94.2.2.1 F88 iF88.1); have o6 := p94.2.2.2; have o7 := iR154; have o8 := iR183; have o9 := iF154.2; have o10 := iF183.2; have o11 := iF38.2; have o12 := iF72.2; have o13 := iF88.2; have o14 := r23_s0; have o15 := q_1r; have o16 := p94.1; have o17 := ry45; unfold q_r at o9 o10 o11 o12 o13 o14 o15 o16 o17; omega) ⟨(by rw [u203]; exact (q_keepK tA0 T191 (by decide)).trans iG183.1), iG183.2⟩ (by have o0 := (q_addN (lo := 1) (hi := 128) e160 g155 r154_6 (by decide)).1; have o1 := c169; have o2 := iH183; have o3 := c187; have o4 := (q_addN (lo := 0) (hi := 127) e200 iG183.2 r_10 (by decide)).1; have o5 := h204.1; have o6 := iG183.2; have o7 := r154_6; have o8 := r_10; have o9 := g155; have o10 := r_11; have o11 := g168; have o12 := r_12; have o13 := h204.2; unfold q_r at o6 o7 o8 o9 o10 o11 o12 o13; omega) hF (q_measU hm183 (by have o0 := c187; have o1 := (q_addN (lo := 0) (hi := 127) e200 iG183.2 r_10 (by decide)).1; have o2 := h204.1; have o3 := (q_addN (lo := 1) (hi := 128) e160 g155 r154_6 (by decide)).1; have o4 := c169; have o5 := iH183; have o6 := iG183.2; have o7 := r154_6; have o8 := r_10; have o9 := g155; have o10 := r_11; have o11 := g168; have o12 := r_12; have o13 := h204.2; unfold q_r at o6 o7 o8 o9 o10 o11 o12 o13; omega) (h204.2).2)
                refine q_lv [1, 3, 4, 0] rfl ?_
                have r_13 := q_rle r_5 g168 c169
                exact J183 ((64 - (0 : Int32).toInt).toNat + 1) 0 σ154 F154 v155 (q_r.mono rl_0 (by decide)) hS154 ⟨iF154.1, iF154.2⟩ (by have o0 := iL23; have o1 := iR38; have o2 := ly45; have o3 := iR72; have o4 := iR88; have o5 := (p94.2.2.1 F88 iF88.1); have o6 := p94.2.2.2; have o7 := iR154; have o8 := iF154.2; have o9 := iF38.2; have o10 := iF72.2; have o11 := iF88.2; have o12 := r23_s0; have o13 := q_1r; have o14 := p94.1; have o15 := ry45; unfold q_r at o8 o9 o10 o11 o12 o13 o14 o15; omega) ⟨f155, g155⟩ (by have o0 := (q_addN (lo := 1) (hi := 128) e160 g155 r154_6 (by decide)).1; have o1 := c169; have o2 := r154_6; have o3 := g155; have o4 := r_13; have o5 := g168; unfold q_r at o2 o3 o4 o5; omega) (by rw [tl_0]; exact hF) (Nat.lt_succ_self _)
              intro c169
              have r_14 := (q_addN (lo := 1) (hi := 128) e160 g155 r154_6 (by decide)).2
              replace hF := fx_lt1 hF rfl rfl c169
              refine q_aload_n (pc := 172) hG dX12_readsValue_172 0 rfl ?_
              refine q_bipush (pc := 173) hG dX12_readsValue_173 kb_6 ?_
              refine q_iload_n (pc := 175) hG dX12_readsValue_175 1 rfl ?_
              refine q_cVi (pc := 176) [.int 6, .int q_1v] [] hG (c_X12_wrongAt τ σ154 a0 6 q_1v hS154.1 tA0) my_X12_wrongAt mv_X12_wrongAt w888 dX12_readsValue_176 tA0 (by decide) rfl rfl (Nat.le_of_ble_eq_true rfl) (by decide) (fun v176 s176 p176 => ?_)
              have w176 := hS154.trans p176.1 rfl
              have fq176 := p176.2.2
              rewrite [tl_6] at fq176
              replace hF := fx_C hF fq176
              exact q_zrt hG hE dX12_readsValue_179 (q_r.mono p176.2.1 (by decide)) ⟨w176, (q_r.mono p176.2.1 (by decide)), (fx_end hF hF0), (fun x e => by have q := e.symm.trans q_1f; cases q; exact ⟨F154, (p176.1.same tA0 rfl iF154.1), iF154.2, (by have o0 := iL23; have o1 := iR38; have o2 := ly45; have o3 := iR72; have o4 := iR88; have o5 := (p94.2.2.1 F88 iF88.1); have o6 := p94.2.2.2; have o7 := iR154; have o8 := iF154.2; have o9 := iF38.2; have o10 := iF72.2; have o11 := iF88.2; have o12 := r23_s0; have o13 := q_1r; have o14 := p94.1; have o15 := ry45; unfold q_r at o8 o9 o10 o11 o12 o13 o14 o15; omega)⟩)⟩
            refine q_icmp_ne (pc := 99) hG 154 dX12_readsValue_99 rfl ?_ ?_
            · intro c99
              replace hF := fx_eq2 hF rfl tl_42 c99
              refine q_lv [2, 3, 1, 0] rfl ?_
              exact J154 1 s45 F88 (q_r.mono rl_1 (by decide)) w45 ⟨iF88.1, iF88.2⟩ (by have o0 := iL23; have o1 := iR38; have o2 := ly45; have o3 := iR72; have o4 := iR88; have o5 := (p94.2.2.1 F88 iF88.1); have o6 := p94.2.2.2; have o7 := c99; have o8 := iF38.2; have o9 := iF72.2; have o10 := iF88.2; have o11 := r23_s0; have o12 := q_1r; have o13 := p94.1; have o14 := ry45; have l15 := tl_42; unfold q_r at o8 o9 o10 o11 o12 o13 o14; omega) (by rw [tl_1]; exact hF)
            intro c99
            replace hF := fx_eq1 hF rfl tl_42 c99
            refine q_aload_n (pc := 102) hG dX12_readsValue_102 2 rfl ?_
            refine q_aload_n (pc := 103) hG dX12_readsValue_103 2 rfl ?_
            refine q_getV (pc := 104) (v := .int F88) hG fl_X12_126 dX12_readsValue_104 tA0 iF88.1 ?_
            refine q_iconst (pc := 107) hG dX12_readsValue_107 ki_1 ?_
            refine q_iadd (pc := 108) hG dX12_readsValue_108 (fun v108 e108 => ?_)
            replace hF := fx_add hF rfl tl_1 (q_addN (lo := 1) (hi := 261) e108 iF88.2 rl_1 (by decide)).1
            have r_15 := (q_addN (lo := 1) (hi := 261) e108 iF88.2 rl_1 (by decide)).2
            have r_16 := q_req rl_42 c99
            refine q_putI (pc := 109) hG fl_X12_126 dX12_readsValue_109 w45 tA0 ff_10_5 (show q_r v108 0 260 from ⟨(by have o0 := (q_addN (lo := 1) (hi := 261) e108 iF88.2 rl_1 (by decide)).1; have o1 := iR88; have o2 := (p94.2.2.1 F88 iF88.1); have o3 := p94.2.2.2; have o4 := c99; have o5 := iL23; have o6 := iR38; have o7 := ly45; have o8 := iR72; have o9 := iF38.2; have o10 := iF72.2; have o11 := iF88.2; have o12 := r23_s0; have o13 := q_1r; have o14 := r_15; have o15 := r_16; have o16 := ry45; have l17 := tl_1; have l18 := tl_42; unfold q_r at o9 o10 o11 o12 o13 o14 o15 o16; omega), (by have o0 := (q_addN (lo := 1) (hi := 261) e108 iF88.2 rl_1 (by decide)).1; have o1 := iR88; have o2 := (p94.2.2.1 F88 iF88.1); have o3 := p94.2.2.2; have o4 := c99; have o5 := iL23; have o6 := iR38; have o7 := ly45; have o8 := iR72; have o9 := iF38.2; have o10 := iF72.2; have o11 := iF88.2; have o12 := r23_s0; have o13 := q_1r; have o14 := r_15; have o15 := r_16; have o16 := ry45; have l17 := tl_1; have l18 := tl_42; unfold q_r at o9 o10 o11 o12 o13 o14 o15 o16; omega)⟩) (by decide) rfl (fun s109 u109 w109 => ?_)
            replace hF := fx_P hF u109 rfl rfl
            have m109 : s109 a0 5 = .int v108 := by rw [u109]; exact q_up_same
            refine q_aload_n (pc := 112) hG dX12_readsValue_112 2 rfl ?_
            refine q_getV (pc := 113) (v := .int v108) hG fl_X12_126 dX12_readsValue_113 tA0 m109 ?_
            refine q_istore (pc := 116) [(4, .int v108), (6, .int 1), (5, .int p88_s0), (0, .ref a0), (2, .int q_1v)] hG dX12_readsValue_116 (by decide) rfl ?_
            refine q_aload_n (pc := 118) hG dX12_readsValue_118 3 rfl ?_
            refine q_cVi (pc := 119) [] [] hG (c_X12_readsTwo τ s109 a0 w109.1 tA0) my_X12_readsTwo mv_X12_readsTwo w882 dX12_readsValue_119 tA0 (by decide) rfl rfl (Nat.le_of_ble_eq_true rfl) (by decide) (fun v119 s119 p119 => ?_)
            have w119 := w109.trans p119.1 rfl
            replace hF := fx_C hF p119.2.2.1
            obtain ⟨y119, fy119, ry119, ly119⟩ := p119.2.2.2.1 v108 m109
            replace hF := fx_I hF fy119 rfl
            refine q_if_ne (pc := 122) hG 127 dX12_readsValue_122 rfl ?_ ?_
            · intro c122
              have g_17 := p119.2.2.2.2 (q_one p119.2.1 c122)
              obtain ⟨n119, fn119, rn119⟩ := g_17
              replace hF := fx_eq2 hF rfl rfl c122
              replace hF := fx_I hF fn119 rfl
              refine q_aload_n (pc := 127) hG dX12_readsValue_127 3 rfl ?_
              refine q_getV (pc := 128) (v := .int n119) hG fl_X12_143 dX12_readsValue_128 tA0 fn119 ?_
              refine q_iconst (pc := 131) hG dX12_readsValue_131 ki_2 ?_
              refine q_bipush (pc := 132) hG dX12_readsValue_132 kb_64 ?_
              refine q_pS (pc := 134) [.int n119, .int 2, .int 64] [] hG (c_X12_in τ s119 n119 2 64 w119.1) my_X12_in w778 w777 dX12_readsValue_134 rfl rfl (Nat.le_of_ble_eq_true rfl) (by decide) (fun v134 p134 => ?_)
              have fq134 := p134.2.1
              rewrite [tl_2, tl_64] at fq134
              replace hF := fx_E hF fq134
              refine q_if_ne (pc := 137) hG 148 dX12_readsValue_137 rfl ?_ ?_
              · intro c137
                have g_18 := p134.2.2.mp (q_one p134.1 c137)
                have r_19 := q_rge rn119 rl_2 g_18.1
                replace hF := fx_eq2 hF rfl rfl c137
                refine q_aload_n (pc := 148) hG dX12_readsValue_148 3 rfl ?_
                refine q_getV (pc := 149) (v := .int n119) hG fl_X12_143 dX12_readsValue_149 tA0 fn119 ?_
                refine q_istore (pc := 152) [(6, .int n119), (4, .int v108), (5, .int p88_s0), (0, .ref a0), (2, .int q_1v)] hG dX12_readsValue_152 (by decide) rfl ?_
                refine q_lv [3, 4, 2, 0] rfl ?_
                have r_20 := q_rle r_19 rl_64 g_18.2
                exact J154 n119 s119 y119 (q_r.mono r_20 (by decide)) w119 ⟨fy119, ry119⟩ (by have o0 := iL23; have o1 := iR38; have o2 := ly45; have o3 := iR72; have o4 := iR88; have o5 := (p94.2.2.1 F88 iF88.1); have o6 := p94.2.2.2; have o7 := c99; have o8 := (q_addN (lo := 1) (hi := 261) e108 iF88.2 rl_1 (by decide)).1; have o9 := ly119; have o10 := iF38.2; have o11 := iF72.2; have o12 := iF88.2; have o13 := r23_s0; have o14 := q_1r; have o15 := r_15; have o16 := r_16; have o17 := ry119; have o18 := ry45; have l19 := tl_1; have l20 := tl_42; unfold q_r at o10 o11 o12 o13 o14 o15 o16 o17 o18; omega) hF
              intro c137
              replace hF := fx_eq1 hF rfl rfl c137
              refine q_aload_n (pc := 140) hG dX12_readsValue_140 3 rfl ?_
              refine q_iconst (pc := 141) hG dX12_readsValue_141 ki_3 ?_
              refine q_iload (pc := 142) hG dX12_readsValue_142 0 rfl ?_
              refine q_cVi (pc := 144) [.int 3, .int v108] [] hG (c_X12_wrongAt τ s119 a0 3 v108 w119.1 tA0) my_X12_wrongAt mv_X12_wrongAt w888 dX12_readsValue_144 tA0 (by decide) rfl rfl (Nat.le_of_ble_eq_true rfl) (by decide) (fun v144 s144 p144 => ?_)
              have w144 := w119.trans p144.1 rfl
              have fq144 := p144.2.2
              rewrite [tl_3] at fq144
              replace hF := fx_C hF fq144
              exact q_zrt hG hE dX12_readsValue_147 (q_r.mono p144.2.1 (by decide)) ⟨w144, (q_r.mono p144.2.1 (by decide)), (fx_end hF hF0), (fun x e => by have q := e.symm.trans q_1f; cases q; exact ⟨y119, (p144.1.same tA0 rfl fy119), ry119, (by have o0 := iL23; have o1 := iR38; have o2 := ly45; have o3 := iR72; have o4 := iR88; have o5 := (p94.2.2.1 F88 iF88.1); have o6 := p94.2.2.2; have o7 := c99; have o8 := (q_addN (lo := 1) (hi := 261) e108 iF88.2 rl_1 (by decide)).1; have o9 := ly119; have o10 := iF38.2; have o11 := iF72.2; have o12 := iF88.2; have o13 := r23_s0; have o14 := q_1r; have o15 := r_15; have o16 := r_16; have o17 := ry119; have o18 := ry45; have l19 := tl_1; have l20 := tl_42; unfold q_r at o10 o11 o12 o13 o14 o15 o16 o17 o18; omega)⟩)⟩
            intro c122
            replace hF := fx_eq1 hF rfl rfl c122
            refine q_iconst (pc := 125) hG dX12_readsValue_125 ki_0 ?_
            exact q_zrt hG hE dX12_readsValue_126 (q_r.mono rl_0 (by decide)) ⟨w119, (q_r.mono rl_0 (by decide)), (by rw [tl_0]; exact fx_end hF hF0), (fun x e => by have q := e.symm.trans q_1f; cases q; exact ⟨y119, fy119, ry119, (by have o0 := iL23; have o1 := iR38; have o2 := ly45; have o3 := iR72; have o4 := iR88; have o5 := (p94.2.2.1 F88 iF88.1); have o6 := p94.2.2.2; have o7 := c99; have o8 := (q_addN (lo := 1) (hi := 261) e108 iF88.2 rl_1 (by decide)).1; have o9 := ly119; have o10 := iF38.2; have o11 := iF72.2; have o12 := iF88.2; have o13 := r23_s0; have o14 := q_1r; have o15 := r_15; have o16 := r_16; have o17 := ry119; have o18 := ry45; have l19 := tl_1; have l20 := tl_42; unfold q_r at o10 o11 o12 o13 o14 o15 o16 o17 o18; omega)⟩)⟩
          refine q_if_eq (pc := 73) hG 84 dX12_readsValue_73 rfl ?_ ?_
          · intro c73
            replace hF := fx_eq1 hF rfl rfl c73
            refine q_aload_n (pc := 84) hG dX12_readsValue_84 0 rfl ?_
            refine q_getV (pc := 85) (v := .int n45) hG fl_X12_143 dX12_readsValue_85 tA0 fn45 ?_
            refine q_lv [0, 1] rfl ?_
            have r_21 := q_zeq c73
            exact J88 n45 F72 (q_r.mono rn45 (by decide)) ⟨iF72.1, iF72.2⟩ (by have o0 := iL23; have o1 := iR38; have o2 := ly45; have o3 := iR72; have o4 := c73; have o5 := iF38.2; have o6 := iF72.2; have o7 := r_21; have o8 := q_1r; have o9 := ry45; unfold q_r at o5 o6 o7 o8 o9; omega) hF
          intro c73
          replace hF := fx_eq2 hF rfl rfl c73
          refine q_aload_n (pc := 76) hG dX12_readsValue_76 0 rfl ?_
          refine q_getV (pc := 77) (v := .int n45) hG fl_X12_143 dX12_readsValue_77 tA0 fn45 ?_
          refine q_ineg (pc := 80) hG dX12_readsValue_80 (fun v80 e80 => ?_)
          replace hF := fx_neg hF rfl (q_negN (lo := (-99)) (hi := 0) e80 rn45 (by decide)).1
          refine q_goto (pc := 81) 88 hG dX12_readsValue_81 rfl ?_
          refine q_lv [0, 1] rfl ?_
          have r_22 := (q_negN (lo := (-99)) (hi := 0) e80 rn45 (by decide)).2
          have r_23 := q_neL (c := 1) r23_s0 c73 (by decide)
          exact J88 v80 F72 (q_r.mono r_22 (by decide)) ⟨iF72.1, iF72.2⟩ (by have o0 := iL23; have o1 := iR38; have o2 := ly45; have o3 := iR72; have o4 := c73; have o5 := iF38.2; have o6 := iF72.2; have o7 := r_23; have o8 := q_1r; have o9 := ry45; unfold q_r at o5 o6 o7 o8 o9; omega) hF
        refine q_if_eq (pc := 54) hG 72 dX12_readsValue_54 rfl ?_ ?_
        · intro c54
          replace hF := fx_eq1 hF rfl rfl c54
          refine q_lv [1, 2, 3] rfl ?_
          have r_24 := q_zeq c54
          exact J72 y45 ⟨fy45, ry45⟩ (by have o0 := iL23; have o1 := iR38; have o2 := ly45; have o3 := c54; have o4 := iF38.2; have o5 := r_24; have o6 := q_1r; have o7 := ry45; unfold q_r at o4 o5 o6 o7; omega) hF
        intro c54
        replace hF := fx_eq2 hF rfl rfl c54
        refine q_aload_n (pc := 57) hG dX12_readsValue_57 1 rfl ?_
        refine q_getV (pc := 58) (v := .int n45) hG fl_X12_143 dX12_readsValue_58 tA0 fn45 ?_
        refine q_if_ne (pc := 61) hG 72 dX12_readsValue_61 rfl ?_ ?_
        · intro c61
          replace hF := fx_eq2 hF rfl rfl c61
          refine q_lv [1, 2, 3] rfl ?_
          have r_25 := q_neL (c := 1) r23_s0 c54 (by decide)
          exact J72 y45 ⟨fy45, ry45⟩ (by have o0 := iL23; have o1 := iR38; have o2 := ly45; have o3 := c54; have o4 := iF38.2; have o5 := r_25; have o6 := q_1r; have o7 := ry45; unfold q_r at o4 o5 o6 o7; omega) hF
        intro c61
        replace hF := fx_eq1 hF rfl rfl c61
        refine q_aload_n (pc := 64) hG dX12_readsValue_64 1 rfl ?_
        refine q_iconst (pc := 65) hG dX12_readsValue_65 ki_1 ?_
        refine q_iload (pc := 66) hG dX12_readsValue_66 0 rfl ?_
        refine q_cVi (pc := 68) [.int 1, .int F38] [] hG (c_X12_wrongAt τ s45 a0 1 F38 w45.1 tA0) my_X12_wrongAt mv_X12_wrongAt w888 dX12_readsValue_68 tA0 (by decide) rfl rfl (Nat.le_of_ble_eq_true rfl) (by decide) (fun v68 s68 p68 => ?_)
        have w68 := w45.trans p68.1 rfl
        have fq68 := p68.2.2
        rewrite [tl_1] at fq68
        replace hF := fx_C hF fq68
        have r_26 := q_neL (c := 1) r23_s0 c54 (by decide)
        exact q_zrt hG hE dX12_readsValue_71 (q_r.mono p68.2.1 (by decide)) ⟨w68, (q_r.mono p68.2.1 (by decide)), (fx_end hF hF0), (fun x e => by have q := e.symm.trans q_1f; cases q; exact ⟨y45, (p68.1.same tA0 rfl fy45), ry45, (by have o0 := iL23; have o1 := iR38; have o2 := ly45; have o3 := c54; have o4 := iF38.2; have o5 := r_26; have o6 := q_1r; have o7 := ry45; unfold q_r at o4 o5 o6 o7; omega)⟩)⟩
      intro c48
      replace hF := fx_eq1 hF rfl rfl c48
      refine q_iconst (pc := 51) hG dX12_readsValue_51 ki_0 ?_
      exact q_zrt hG hE dX12_readsValue_52 (q_r.mono rl_0 (by decide)) ⟨w45, (q_r.mono rl_0 (by decide)), (by rw [tl_0]; exact fx_end hF hF0), (fun x e => by have q := e.symm.trans q_1f; cases q; exact ⟨y45, fy45, ry45, (by have o0 := iL23; have o1 := iR38; have o2 := ly45; have o3 := iF38.2; have o4 := r23_s0; have o5 := q_1r; have o6 := ry45; unfold q_r at o3 o4 o5 o6; omega)⟩)⟩
    refine q_if_eq (pc := 25) hG 38 dX12_readsValue_25 rfl ?_ ?_
    · intro c25
      replace hF := fx_eq1 hF rfl rfl c25
      refine q_lv [1, 2, 0] rfl ?_
      have r_27 := q_zeq c25
      exact J38 σ q_1v hS0 ⟨q_1f, q_1r⟩ (by have o0 := iL23; have o1 := c25; have o2 := r_27; have o3 := q_1r; unfold q_r at o2 o3; omega) hF
    intro c25
    replace hF := fx_eq2 hF rfl rfl c25
    refine q_aload_n (pc := 28) hG dX12_readsValue_28 1 rfl ?_
    refine q_aload_n (pc := 29) hG dX12_readsValue_29 1 rfl ?_
    refine q_getV (pc := 30) (v := .int q_1v) hG fl_X12_126 dX12_readsValue_30 tA0 q_1f ?_
    refine q_iconst (pc := 33) hG dX12_readsValue_33 ki_1 ?_
    refine q_iadd (pc := 34) hG dX12_readsValue_34 (fun v34 e34 => ?_)
    replace hF := fx_add hF rfl tl_1 (q_addN (lo := 1) (hi := 261) e34 q_1r rl_1 (by decide)).1
    have r_28 := q_neL (c := 1) r23_s0 c25 (by decide)
    have r_29 := (q_addN (lo := 1) (hi := 261) e34 q_1r rl_1 (by decide)).2
    refine q_putI (pc := 35) hG fl_X12_126 dX12_readsValue_35 hS0 tA0 ff_10_5 (show q_r v34 0 260 from ⟨(by have o0 := (q_addN (lo := 1) (hi := 261) e34 q_1r rl_1 (by decide)).1; have o1 := iL23; have o2 := c25; have o3 := r_28; have o4 := q_1r; have o5 := r_29; have l6 := tl_1; unfold q_r at o3 o4 o5; omega), (by have o0 := (q_addN (lo := 1) (hi := 261) e34 q_1r rl_1 (by decide)).1; have o1 := iL23; have o2 := c25; have o3 := r_28; have o4 := q_1r; have o5 := r_29; have l6 := tl_1; unfold q_r at o3 o4 o5; omega)⟩) (by decide) rfl (fun s35 u35 w35 => ?_)
    replace hF := fx_P hF u35 rfl rfl
    have m35 : s35 a0 5 = .int v34 := by rw [u35]; exact q_up_same
    refine q_lv [1, 2, 0] rfl ?_
    exact J38 s35 v34 w35 ⟨m35, (show q_r v34 0 260 from ⟨(by have o0 := (q_addN (lo := 1) (hi := 261) e34 q_1r rl_1 (by decide)).1; have o1 := iL23; have o2 := c25; have o3 := r_28; have o4 := q_1r; have o5 := r_29; have l6 := tl_1; unfold q_r at o3 o4 o5; omega), (by have o0 := (q_addN (lo := 1) (hi := 261) e34 q_1r rl_1 (by decide)).1; have o1 := iL23; have o2 := c25; have o3 := r_28; have o4 := q_1r; have o5 := r_29; have l6 := tl_1; unfold q_r at o3 o4 o5; omega)⟩)⟩ (by have o0 := iL23; have o1 := c25; have o2 := (q_addN (lo := 1) (hi := 261) e34 q_1r rl_1 (by decide)).1; have o3 := r_28; have o4 := q_1r; have o5 := r_29; have l6 := tl_1; unfold q_r at o3 o4 o5; omega) hF
  have J22 : (fx_eq Fv (kJ_X12_readsValue_22 a0 q_1v.toInt (fx_N σ))) → q_O X 0 0 τ σ 22 [(0, .ref a0), (2, .int q_1v)] [] := by
    intro hF
    unfold kJ_X12_readsValue_22 at hF
    refine q_iconst (pc := 22) hG dX12_readsValue_22 ki_0 ?_
    refine q_lv [0, 1] rfl ?_
    exact J23 0 (q_r.mono rl_0 (by decide)) (by have o0 := q_1r; have l1 := tl_0; unfold q_r at o0; omega) (by rw [tl_0]; exact hF)
  refine q_if_eq (pc := 6) hG 22 dX12_readsValue_6 rfl ?_ ?_
  · intro c6
    replace hF := fx_eq1 hF rfl rfl c6
    refine q_lv [1, 0] rfl ?_
    exact J22 hF
  intro c6
  replace hF := fx_eq2 hF rfl rfl c6
  refine q_aload_n (pc := 9) hG dX12_readsValue_9 1 rfl ?_
  refine q_pV (pc := 10) [] [] hG (c_X12_here τ σ a0 hI tA0) my_X12_here mv_X12_here w879 dX12_readsValue_10 tA0 (by decide) rfl rfl (Nat.le_of_ble_eq_true rfl) (by decide) (fun v10 p10 => ?_)
  replace hF := fx_E hF p10.2.1
  refine q_bipush (pc := 13) hG dX12_readsValue_13 kb_45 ?_
  refine q_icmp_ne (pc := 15) hG 22 dX12_readsValue_15 rfl ?_ ?_
  · intro c15
    replace hF := fx_eq2 hF rfl tl_45 c15
    refine q_lv [1, 0] rfl ?_
    exact J22 hF
  intro c15
  replace hF := fx_eq1 hF rfl tl_45 c15
  refine q_iconst (pc := 18) hG dX12_readsValue_18 ki_1 ?_
  refine q_goto (pc := 19) 23 hG dX12_readsValue_19 rfl ?_
  refine q_lv [1, 0] rfl ?_
  have r_30 := q_req rl_45 c15
  exact J23 1 (q_r.mono rl_1 (by decide)) (by have o0 := (p10.2.2.1 q_1v q_1f); have o1 := p10.2.2.2; have o2 := c15; have o3 := q_1r; have o4 := r_30; have l5 := tl_1; have l6 := tl_45; unfold q_r at o3 o4; omega) (by rw [tl_1]; exact hF)
theorem dX12_row_0 : decode cX12_row 0 = .ok (.iload_n 1, 1) := by decide +kernel
theorem dX12_row_1 : decode cX12_row 1 = .ok (.iconst 0, 1) := by decide +kernel
theorem dX12_row_2 : decode cX12_row 2 = .ok (.iconst 2, 1) := by decide +kernel
theorem dX12_row_3 : decode cX12_row 3 = .ok (.invokestatic 102, 3) := by decide +kernel
theorem dX12_row_6 : decode cX12_row 6 = .ok (.ifCond .eq 21, 3) := by decide +kernel
theorem dX12_row_9 : decode cX12_row 9 = .ok (.iload_n 2, 1) := by decide +kernel
theorem dX12_row_10 : decode cX12_row 10 = .ok (.iconst 1, 1) := by decide +kernel
theorem dX12_row_11 : decode cX12_row 11 = .ok (.bipush 120, 2) := by decide +kernel
theorem dX12_row_13 : decode cX12_row 13 = .ok (.invokestatic 102, 3) := by decide +kernel
theorem dX12_row_16 : decode cX12_row 16 = .ok (.ifCond .eq 11, 3) := by decide +kernel
theorem dX12_row_19 : decode cX12_row 19 = .ok (.iload_n 2, 1) := by decide +kernel
theorem dX12_row_20 : decode cX12_row 20 = .ok (.aload_n 0, 1) := by decide +kernel
theorem dX12_row_21 : decode cX12_row 21 = .ok (.getfield 119, 3) := by decide +kernel
theorem dX12_row_24 : decode cX12_row 24 = .ok (.if_icmp .le 5, 3) := by decide +kernel
theorem dX12_row_27 : decode cX12_row 27 = .ok (.iconst (-1), 1) := by decide +kernel
theorem dX12_row_28 : decode cX12_row 28 = .ok (.ireturn, 1) := by decide +kernel
theorem dX12_row_29 : decode cX12_row 29 = .ok (.aload_n 0, 1) := by decide +kernel
theorem dX12_row_30 : decode cX12_row 30 = .ok (.iconst 0, 1) := by decide +kernel
theorem dX12_row_31 : decode cX12_row 31 = .ok (.putfield 126, 3) := by decide +kernel
theorem dX12_row_34 : decode cX12_row 34 = .ok (.aload_n 0, 1) := by decide +kernel
theorem dX12_row_35 : decode cX12_row 35 = .ok (.iload_n 2, 1) := by decide +kernel
theorem dX12_row_36 : decode cX12_row 36 = .ok (.putfield 129, 3) := by decide +kernel
theorem dX12_row_39 : decode cX12_row 39 = .ok (.aload_n 0, 1) := by decide +kernel
theorem dX12_row_40 : decode cX12_row 40 = .ok (.iconst 0, 1) := by decide +kernel
theorem dX12_row_41 : decode cX12_row 41 = .ok (.putfield 208, 3) := by decide +kernel
theorem dX12_row_44 : decode cX12_row 44 = .ok (.aload_n 0, 1) := by decide +kernel
theorem dX12_row_45 : decode cX12_row 45 = .ok (.iload_n 1, 1) := by decide +kernel
theorem dX12_row_46 : decode cX12_row 46 = .ok (.ifCond .ne 7, 3) := by decide +kernel
theorem dX12_row_49 : decode cX12_row 49 = .ok (.iconst 1, 1) := by decide +kernel
theorem dX12_row_50 : decode cX12_row 50 = .ok (.goto 4, 3) := by decide +kernel
theorem dX12_row_53 : decode cX12_row 53 = .ok (.iconst 0, 1) := by decide +kernel
theorem dX12_row_54 : decode cX12_row 54 = .ok (.invokevirtual 211, 3) := by decide +kernel
theorem dX12_row_57 : decode cX12_row 57 = .ok (.istore_n 3, 1) := by decide +kernel
theorem dX12_row_58 : decode cX12_row 58 = .ok (.iload_n 3, 1) := by decide +kernel
theorem dX12_row_59 : decode cX12_row 59 = .ok (.ifCond .eq 63, 3) := by decide +kernel
theorem dX12_row_62 : decode cX12_row 62 = .ok (.aload_n 0, 1) := by decide +kernel
theorem dX12_row_63 : decode cX12_row 63 = .ok (.getfield 126, 3) := by decide +kernel
theorem dX12_row_66 : decode cX12_row 66 = .ok (.aload_n 0, 1) := by decide +kernel
theorem dX12_row_67 : decode cX12_row 67 = .ok (.getfield 129, 3) := by decide +kernel
theorem dX12_row_70 : decode cX12_row 70 = .ok (.if_icmp .lt 18, 3) := by decide +kernel
theorem dX12_row_73 : decode cX12_row 73 = .ok (.aload_n 0, 1) := by decide +kernel
theorem dX12_row_74 : decode cX12_row 74 = .ok (.getfield 208, 3) := by decide +kernel
theorem dX12_row_77 : decode cX12_row 77 = .ok (.aload_n 0, 1) := by decide +kernel
theorem dX12_row_78 : decode cX12_row 78 = .ok (.getfield 7, 3) := by decide +kernel
theorem dX12_row_81 : decode cX12_row 81 = .ok (.sipush 512, 3) := by decide +kernel
theorem dX12_row_84 : decode cX12_row 84 = .ok (.iaload, 1) := by decide +kernel
theorem dX12_row_85 : decode cX12_row 85 = .ok (.if_icmp .ge 37, 3) := by decide +kernel
theorem dX12_row_88 : decode cX12_row 88 = .ok (.aload_n 0, 1) := by decide +kernel
theorem dX12_row_89 : decode cX12_row 89 = .ok (.bipush 44, 2) := by decide +kernel
theorem dX12_row_91 : decode cX12_row 91 = .ok (.invokevirtual 215, 3) := by decide +kernel
theorem dX12_row_94 : decode cX12_row 94 = .ok (.ifCond .eq 23, 3) := by decide +kernel
theorem dX12_row_97 : decode cX12_row 97 = .ok (.aload_n 0, 1) := by decide +kernel
theorem dX12_row_98 : decode cX12_row 98 = .ok (.iload_n 1, 1) := by decide +kernel
theorem dX12_row_99 : decode cX12_row 99 = .ok (.ifCond .ne 7, 3) := by decide +kernel
theorem dX12_row_102 : decode cX12_row 102 = .ok (.iconst 1, 1) := by decide +kernel
theorem dX12_row_103 : decode cX12_row 103 = .ok (.goto 4, 3) := by decide +kernel
theorem dX12_row_106 : decode cX12_row 106 = .ok (.iconst 0, 1) := by decide +kernel
theorem dX12_row_107 : decode cX12_row 107 = .ok (.invokevirtual 211, 3) := by decide +kernel
theorem dX12_row_110 : decode cX12_row 110 = .ok (.ifCond .eq 7, 3) := by decide +kernel
theorem dX12_row_113 : decode cX12_row 113 = .ok (.iconst 1, 1) := by decide +kernel
theorem dX12_row_114 : decode cX12_row 114 = .ok (.goto 4, 3) := by decide +kernel
theorem dX12_row_117 : decode cX12_row 117 = .ok (.iconst 0, 1) := by decide +kernel
theorem dX12_row_118 : decode cX12_row 118 = .ok (.istore_n 3, 1) := by decide +kernel
theorem dX12_row_119 : decode cX12_row 119 = .ok (.goto (-61), 3) := by decide +kernel
theorem dX12_row_122 : decode cX12_row 122 = .ok (.aload_n 0, 1) := by decide +kernel
theorem dX12_row_123 : decode cX12_row 123 = .ok (.iconst 0, 1) := by decide +kernel
theorem dX12_row_124 : decode cX12_row 124 = .ok (.putfield 119, 3) := by decide +kernel
theorem dX12_row_127 : decode cX12_row 127 = .ok (.iload_n 3, 1) := by decide +kernel
theorem dX12_row_128 : decode cX12_row 128 = .ok (.ifCond .ne 8, 3) := by decide +kernel
theorem dX12_row_131 : decode cX12_row 131 = .ok (.aload_n 0, 1) := by decide +kernel
theorem dX12_row_132 : decode cX12_row 132 = .ok (.getfield 136, 3) := by decide +kernel
theorem dX12_row_135 : decode cX12_row 135 = .ok (.ireturn, 1) := by decide +kernel
theorem dX12_row_136 : decode cX12_row 136 = .ok (.iconst 0, 1) := by decide +kernel
theorem dX12_row_137 : decode cX12_row 137 = .ok (.istore 4, 2) := by decide +kernel
theorem dX12_row_139 : decode cX12_row 139 = .ok (.iconst 0, 1) := by decide +kernel
theorem dX12_row_140 : decode cX12_row 140 = .ok (.istore 5, 2) := by decide +kernel
theorem dX12_row_142 : decode cX12_row 142 = .ok (.iload 5, 2) := by decide +kernel
theorem dX12_row_144 : decode cX12_row 144 = .ok (.aload_n 0, 1) := by decide +kernel
theorem dX12_row_145 : decode cX12_row 145 = .ok (.getfield 7, 3) := by decide +kernel
theorem dX12_row_148 : decode cX12_row 148 = .ok (.sipush 512, 3) := by decide +kernel
theorem dX12_row_151 : decode cX12_row 151 = .ok (.iaload, 1) := by decide +kernel
theorem dX12_row_152 : decode cX12_row 152 = .ok (.if_icmp .ge 43, 3) := by decide +kernel
theorem dX12_row_155 : decode cX12_row 155 = .ok (.aload_n 0, 1) := by decide +kernel
theorem dX12_row_156 : decode cX12_row 156 = .ok (.getfield 7, 3) := by decide +kernel
theorem dX12_row_159 : decode cX12_row 159 = .ok (.bipush 64, 2) := by decide +kernel
theorem dX12_row_161 : decode cX12_row 161 = .ok (.iload_n 1, 1) := by decide +kernel
theorem dX12_row_162 : decode cX12_row 162 = .ok (.imul, 1) := by decide +kernel
theorem dX12_row_163 : decode cX12_row 163 = .ok (.iload 5, 2) := by decide +kernel
theorem dX12_row_165 : decode cX12_row 165 = .ok (.iadd, 1) := by decide +kernel
theorem dX12_row_166 : decode cX12_row 166 = .ok (.aload_n 0, 1) := by decide +kernel
theorem dX12_row_167 : decode cX12_row 167 = .ok (.getfield 56, 3) := by decide +kernel
theorem dX12_row_170 : decode cX12_row 170 = .ok (.iload 5, 2) := by decide +kernel
theorem dX12_row_172 : decode cX12_row 172 = .ok (.iaload, 1) := by decide +kernel
theorem dX12_row_173 : decode cX12_row 173 = .ok (.iastore, 1) := by decide +kernel
theorem dX12_row_174 : decode cX12_row 174 = .ok (.iload 4, 2) := by decide +kernel
theorem dX12_row_176 : decode cX12_row 176 = .ok (.aload_n 0, 1) := by decide +kernel
theorem dX12_row_177 : decode cX12_row 177 = .ok (.getfield 56, 3) := by decide +kernel
theorem dX12_row_180 : decode cX12_row 180 = .ok (.iload 5, 2) := by decide +kernel
theorem dX12_row_182 : decode cX12_row 182 = .ok (.iaload, 1) := by decide +kernel
theorem dX12_row_183 : decode cX12_row 183 = .ok (.invokestatic 218, 3) := by decide +kernel
theorem dX12_row_186 : decode cX12_row 186 = .ok (.iadd, 1) := by decide +kernel
theorem dX12_row_187 : decode cX12_row 187 = .ok (.istore 4, 2) := by decide +kernel
theorem dX12_row_189 : decode cX12_row 189 = .ok (.iinc 5 1, 3) := by decide +kernel
theorem dX12_row_192 : decode cX12_row 192 = .ok (.goto (-50), 3) := by decide +kernel
theorem dX12_row_195 : decode cX12_row 195 = .ok (.iload 4, 2) := by decide +kernel
theorem dX12_row_197 : decode cX12_row 197 = .ok (.ireturn, 1) := by decide +kernel
def md_X12_row : List (Nat × Nat) := [(10, 4), (10, 5), (10, 6), (10, 7), (10, 8), (10, 14), (100, 0), (161, 0)]
set_option maxRecDepth 100000 in
set_option maxHeartbeats 4000000 in
theorem c_X12_row {l : Launch} {D : q_D} (τ : q_T) (σ : q_V) (a0 : Nat) (x1 : Int32) (x2 : Int32) (hI : q_I τ σ) (tA0 : τ a0 = some (10, 1)) : q_Ci l D yX12_row cX12_row 6 (some .int) 4 88 τ σ [.ref a0, .int x1, .int x2] (fun r σ1 => q_S md_X12_row τ σ σ1 ∧ (q_r r (-2147483648) 2147483647) ∧ ((r.toInt, fx_N σ1) = f_X12_row (fx_N σ) a0 x1.toInt x2.toInt) ∧ (∀ t : Int32, σ a0 4 = .int t → ∃ z : Int32, σ1 a0 4 = .int z ∧ (((0 ≤ x1.toInt ∧ x1.toInt ≤ 2) ∧ (1 ≤ x2.toInt ∧ x2.toInt ≤ 120) ∧ x2.toInt ≤ t.toInt) → z.toInt = 0) ∧ (¬ ((0 ≤ x1.toInt ∧ x1.toInt ≤ 2) ∧ (1 ≤ x2.toInt ∧ x2.toInt ≤ 120) ∧ x2.toInt ≤ t.toInt) → z.toInt = t.toInt)) ∧ (∀ bn : Nat, σ a0 0 = .ref bn → σ1 bn (512 : Int32).toInt.toNat = σ bn (512 : Int32).toInt.toNat)) := by
  refine q_meti rfl (Nat.le_of_ble_eq_true rfl) (fun X hG hE => ?_)
  show q_O X 0 0 τ σ 0 [(0, .ref a0), (1, .int x1), (2, .int x2)] []
  have hS0 : q_S md_X12_row τ σ σ := q_S.rf hI
  obtain ⟨Fv, hF⟩ : ∃ z, fx_eq z (f_X12_row (fx_N σ) a0 x1.toInt x2.toInt) := ⟨_, fx_rf⟩
  have hF0 := hF
  unfold f_X12_row at hF
  obtain ⟨q_1v, q_1f, q_1r⟩ := (hI a0 10 1 tA0 5 (by decide)).int ff_10_5
  replace hF := fx_I hF q_1f rfl
  obtain ⟨q_2v, q_2f, q_2r⟩ := (hI a0 10 1 tA0 4 (by decide)).int ff_10_4
  replace hF := fx_I hF q_2f rfl
  obtain ⟨q_3b, q_3f, q_3T⟩ := (hI a0 10 1 tA0 0 (by decide)).ref (k := 100) (n := 549) rfl
  replace hF := fx_R hF q_3f rfl
  obtain ⟨q_4v, q_4f, q_4r⟩ := (hI q_3b 100 549 q_3T 512 (by decide)).int (lo := 8) (hi := 64) rfl
  have q_4g : σ q_3b (512 : Int32).toInt.toNat = .int q_4v := q_4f
  replace hF := fx_I hF q_4g (congrArg Int.toNat tl_512)
  refine q_iload_n (pc := 0) hG dX12_row_0 1 rfl ?_
  refine q_iconst (pc := 1) hG dX12_row_1 ki_0 ?_
  refine q_iconst (pc := 2) hG dX12_row_2 ki_2 ?_
  refine q_pS (pc := 3) [.int x1, .int 0, .int 2] [] hG (c_X12_in τ σ x1 0 2 hI) my_X12_in w778 w777 dX12_row_3 rfl rfl (Nat.le_of_ble_eq_true rfl) (by decide) (fun v3 p3 => ?_)
  have fq3 := p3.2.1
  rewrite [tl_0, tl_2] at fq3
  replace hF := fx_E hF fq3
  refine q_if_eq (pc := 6) hG 27 dX12_row_6 rfl ?_ ?_
  · intro c6
    replace hF := fx_eq1 hF rfl rfl c6
    refine q_iconst (pc := 27) hG dX12_row_27 ki_m1 ?_
    have r_5 := q_zeq c6
    exact q_irt hG hE dX12_row_28 ⟨hS0, (q_r.mono rl_m1 (by decide)), (by rw [tl_m1]; exact fx_end hF hF0), (fun t e => by cases e.symm.trans q_2f; exact ⟨q_2v, q_2f, (by have o0 := p3.2.2; have o1 := c6; have o2 := q_2r; have o3 := r_5; have l4 := tl_m1; have l5 := tl_0; have l6 := tl_2; unfold q_r at o2 o3; omega)⟩), (fun bn hbn => by cases hbn.symm.trans q_3f; exact Eq.trans (show σ q_3b (512 : Int32).toInt.toNat = .int q_4v from q_4g) (Eq.symm q_4g))⟩
  intro c6
  have g_6 := p3.2.2.mp (q_one p3.1 c6)
  have r_7 := q_rge (q_r_any x1) rl_0 g_6.1
  replace hF := fx_eq2 hF rfl rfl c6
  refine q_iload_n (pc := 9) hG dX12_row_9 2 rfl ?_
  refine q_iconst (pc := 10) hG dX12_row_10 ki_1 ?_
  refine q_bipush (pc := 11) hG dX12_row_11 kb_120 ?_
  refine q_pS (pc := 13) [.int x2, .int 1, .int 120] [] hG (c_X12_in τ σ x2 1 120 hI) my_X12_in w778 w777 dX12_row_13 rfl rfl (Nat.le_of_ble_eq_true rfl) (by decide) (fun v13 p13 => ?_)
  have fq13 := p13.2.1
  rewrite [tl_1, tl_120] at fq13
  replace hF := fx_E hF fq13
  refine q_if_eq (pc := 16) hG 27 dX12_row_16 rfl ?_ ?_
  · intro c16
    replace hF := fx_eq1 hF rfl rfl c16
    refine q_iconst (pc := 27) hG dX12_row_27 ki_m1 ?_
    have r_8 := q_zeq c16
    have r_9 := q_neL (c := 1) p3.1 c6 (by decide)
    have r_10 := q_rle r_7 rl_2 g_6.2
    exact q_irt hG hE dX12_row_28 ⟨hS0, (q_r.mono rl_m1 (by decide)), (by rw [tl_m1]; exact fx_end hF hF0), (fun t e => by cases e.symm.trans q_2f; exact ⟨q_2v, q_2f, (by have o0 := p3.2.2; have o1 := c6; have o2 := g_6.1; have o3 := g_6.2; have o4 := p13.2.2; have o5 := c16; have o6 := q_2r; have o7 := r_8; have o8 := r_9; have o9 := r_10; have l10 := tl_m1; have l11 := tl_0; have l12 := tl_1; have l13 := tl_2; have l14 := tl_120; unfold q_r at o6 o7 o8 o9; omega)⟩), (fun bn hbn => by cases hbn.symm.trans q_3f; exact Eq.trans (show σ q_3b (512 : Int32).toInt.toNat = .int q_4v from q_4g) (Eq.symm q_4g))⟩
  intro c16
  have g_11 := p13.2.2.mp (q_one p13.1 c16)
  have r_12 := q_rge (q_r_any x2) rl_1 g_11.1
  replace hF := fx_eq2 hF rfl rfl c16
  refine q_iload_n (pc := 19) hG dX12_row_19 2 rfl ?_
  refine q_aload_n (pc := 20) hG dX12_row_20 0 rfl ?_
  refine q_getV (pc := 21) (v := .int q_2v) hG fl_X12_119 dX12_row_21 tA0 q_2f ?_
  refine q_icmp_le (pc := 24) hG 29 dX12_row_24 rfl ?_ ?_
  · intro c24
    have r_13 := q_rle r_12 rl_120 g_11.2
    replace hF := fx_lt2 hF rfl rfl c24
    refine q_aload_n (pc := 29) hG dX12_row_29 0 rfl ?_
    refine q_iconst (pc := 30) hG dX12_row_30 ki_0 ?_
    refine q_putI (pc := 31) hG fl_X12_126 dX12_row_31 hS0 tA0 ff_10_5 rl_0 (by decide) rfl (fun s31 u31 w31 => ?_)
    replace hF := fx_P hF u31 rfl tl_0
    have m31 : s31 a0 5 = .int 0 := by rw [u31]; exact q_up_same
    refine q_aload_n (pc := 34) hG dX12_row_34 0 rfl ?_
    refine q_iload_n (pc := 35) hG dX12_row_35 2 rfl ?_
    refine q_putI (pc := 36) hG fl_X12_129 dX12_row_36 w31 tA0 ff_10_6 r_13 (by decide) rfl (fun s36 u36 w36 => ?_)
    replace hF := fx_P hF u36 rfl rfl
    have m36 : s36 a0 6 = .int x2 := by rw [u36]; exact q_up_same
    refine q_aload_n (pc := 39) hG dX12_row_39 0 rfl ?_
    refine q_iconst (pc := 40) hG dX12_row_40 ki_0 ?_
    refine q_putI (pc := 41) hG fl_X12_208 dX12_row_41 w36 tA0 ff_10_14 rl_0 (by decide) rfl (fun s41 u41 w41 => ?_)
    replace hF := fx_P hF u41 rfl tl_0
    have m41 : s41 a0 14 = .int 0 := by rw [u41]; exact q_up_same
    refine q_aload_n (pc := 44) hG dX12_row_44 0 rfl ?_
    refine q_iload_n (pc := 45) hG dX12_row_45 1 rfl ?_
    have J54 : ∀ (p54_s0 : Int32), (q_r p54_s0 0 1) → (fx_eq Fv (kJ_X12_row_54 (fx_N s41) a0 q_4v.toInt x1.toInt q_3b p54_s0.toInt)) → q_O X 0 0 τ s41 54 [(0, .ref a0), (1, .int x1)] [.int p54_s0, .ref a0] := by
      intro p54_s0 r54_s0 hF
      unfold kJ_X12_row_54 at hF
      refine q_cVi (pc := 54) [.int p54_s0] [] hG (c_X12_readsValue τ s41 a0 p54_s0 w41.1 tA0 r54_s0) my_X12_readsValue mv_X12_readsValue w876 dX12_row_54 tA0 (by decide) rfl rfl (Nat.le_of_ble_eq_true rfl) (by decide) (fun v54 s54 p54 => ?_)
      have w54 := w41.trans p54.1 rfl
      replace hF := fx_C hF p54.2.2.1
      obtain ⟨y54, fy54, ry54, ly54⟩ := p54.2.2.2 0 (by rw [u41]; exact (q_up_else (Or.inr (by decide))).trans (by rw [u36]; exact (q_up_else (Or.inr (by decide))).trans m31))
      replace hF := fx_I hF fy54 rfl
      refine q_istore_n (pc := 57) [(3, .int v54), (0, .ref a0), (1, .int x1)] hG dX12_row_57 (by decide) rfl ?_
      have J58 : ∀ (n58 : Nat) (p58_3 : Int32) (σ58 : q_V) (F58 : Int32), (q_r p58_3 0 1) → (q_S md_X12_row τ σ σ58) → (σ58 a0 5 = .int F58 ∧ q_r F58 0 260) → (σ58 q_3b (512 : Int32).toInt.toNat = .int q_4v) → (fx_eq Fv (kL_X12_row_58 a0 q_4v.toInt x1.toInt q_3b n58 p58_3.toInt (fx_N σ58) F58.toInt)) → ((2 * (260 - F58.toInt) + p58_3.toInt).toNat < n58) → q_O X 0 0 τ σ58 58 [(0, .ref a0), (1, .int x1), (3, .int p58_3)] [] := by
        intro n58
        induction n58 with
        | zero => intro p58_3 σ58 F58 r58_3 hS58 iF58 i5_58 hF hm58; exact absurd hm58 (Nat.not_lt_zero _)
        | succ n58 ih58 =>
          intro p58_3 σ58 F58 r58_3 hS58 iF58 i5_58 hF hm58
          replace hF := (show fx_eq Fv (kB_X12_row_58 (kL_X12_row_58 a0 q_4v.toInt x1.toInt q_3b n58) a0 q_4v.toInt x1.toInt q_3b p58_3.toInt (fx_N σ58) F58.toInt) from hF)
          unfold kB_X12_row_58 at hF
          refine q_iload_n (pc := 58) hG dX12_row_58 2 rfl ?_
          have J122 : (fx_eq Fv (kJ_X12_row_122 (fx_N σ58) a0 p58_3.toInt q_4v.toInt x1.toInt q_3b)) → q_O X 0 0 τ σ58 122 [(0, .ref a0), (1, .int x1), (3, .int p58_3)] [] := by
            intro hF
            unfold kJ_X12_row_122 at hF
            refine q_aload_n (pc := 122) hG dX12_row_122 0 rfl ?_
            refine q_iconst (pc := 123) hG dX12_row_123 ki_0 ?_
            refine q_putI (pc := 124) hG fl_X12_119 dX12_row_124 hS58 tA0 ff_10_4 rl_0 (by decide) rfl (fun s124 u124 w124 => ?_)
            replace hF := fx_P hF u124 rfl tl_0
            have m124 : s124 a0 4 = .int 0 := by rw [u124]; exact q_up_same
            refine q_iload_n (pc := 127) hG dX12_row_127 2 rfl ?_
            refine q_if_ne (pc := 128) hG 136 dX12_row_128 rfl ?_ ?_
            · intro c128
              replace hF := fx_eq2 hF rfl rfl c128
              refine q_iconst (pc := 136) hG dX12_row_136 ki_0 ?_
              refine q_istore (pc := 137) [(4, .int 0), (0, .ref a0), (1, .int x1), (3, .int p58_3)] hG dX12_row_137 (by decide) rfl ?_
              refine q_iconst (pc := 139) hG dX12_row_139 ki_0 ?_
              refine q_istore (pc := 140) [(5, .int 0), (4, .int 0), (0, .ref a0), (1, .int x1), (3, .int p58_3)] hG dX12_row_140 (by decide) rfl ?_
              have J142 : ∀ (n142 : Nat) (p142_4 : Int32) (p142_5 : Int32) (σ142 : q_V), (q_r p142_5 0 64) → (q_S md_X12_row τ σ σ142) → (σ142 a0 4 = .int 0) → (σ142 q_3b (512 : Int32).toInt.toNat = .int q_4v) → (fx_eq Fv (kL_X12_row_142 q_4v.toInt x1.toInt a0 q_3b n142 p142_4.toInt p142_5.toInt (fx_N σ142))) → ((64 - p142_5.toInt).toNat < n142) → q_O X 0 0 τ σ142 142 [(0, .ref a0), (1, .int x1), (4, .int p142_4), (5, .int p142_5)] [] := by
                intro n142
                induction n142 with
                | zero => intro p142_4 p142_5 σ142 r142_5 hS142 iTP142 i5_142 hF hm142; exact absurd hm142 (Nat.not_lt_zero _)
                | succ n142 ih142 =>
                  intro p142_4 p142_5 σ142 r142_5 hS142 iTP142 i5_142 hF hm142
                  replace hF := (show fx_eq Fv (kB_X12_row_142 (kL_X12_row_142 q_4v.toInt x1.toInt a0 q_3b n142) q_4v.toInt x1.toInt a0 q_3b p142_4.toInt p142_5.toInt (fx_N σ142)) from hF)
                  unfold kB_X12_row_142 at hF
                  refine q_iload (pc := 142) hG dX12_row_142 3 rfl ?_
                  refine q_aload_n (pc := 144) hG dX12_row_144 0 rfl ?_
                  refine q_getV (pc := 145) (v := .ref q_3b) hG fl_X12_7 dX12_row_145 tA0 (hS142.same tA0 rfl q_3f) ?_
                  refine q_sipush (pc := 148) hG dX12_row_148 ks_512 ?_
                  refine q_ialdV (pc := 151) (v := .int q_4v) hG dX12_row_151 q_3T (by decide) (by decide) (q_ix rl_512 (by decide)) i5_142 ?_
                  refine q_icmp_ge (pc := 152) hG 195 dX12_row_152 rfl ?_ ?_
                  · intro c152
                    replace hF := fx_lt2 hF rfl rfl c152
                    refine q_iload (pc := 195) hG dX12_row_195 2 rfl ?_
                    have r_14 := q_rge q_2r r_13 c24
                    have r_15 := q_neL (c := 1) p13.1 c16 (by decide)
                    have r_16 := q_neL (c := 1) p3.1 c6 (by decide)
                    have r_17 := q_rle r_7 rl_2 g_6.2
                    exact q_irt hG hE dX12_row_197 ⟨hS142, (q_r_any p142_4), (fx_end hF hF0), (fun t e => by cases e.symm.trans q_2f; exact ⟨0, iTP142, (by have o0 := p3.2.2; have o1 := c6; have o2 := g_6.1; have o3 := g_6.2; have o4 := p13.2.2; have o5 := c16; have o6 := g_11.1; have o7 := g_11.2; have o8 := c24; have o9 := (q_r_any p142_4); have o10 := r_14; have o11 := r_15; have o12 := r_16; have o13 := r_17; have o14 := r_13; have l15 := tl_0; have l16 := tl_1; have l17 := tl_2; have l18 := tl_120; unfold q_r at o9 o10 o11 o12 o13 o14; omega)⟩), (fun bn hbn => by cases hbn.symm.trans q_3f; exact Eq.trans (show σ142 q_3b (512 : Int32).toInt.toNat = .int q_4v from i5_142) (Eq.symm q_4g))⟩
                  intro c152
                  replace hF := fx_lt1 hF rfl rfl c152
                  refine q_aload_n (pc := 155) hG dX12_row_155 0 rfl ?_
                  refine q_getV (pc := 156) (v := .ref q_3b) hG fl_X12_7 dX12_row_156 tA0 (hS142.same tA0 rfl q_3f) ?_
                  refine q_bipush (pc := 159) hG dX12_row_159 kb_64 ?_
                  refine q_iload_n (pc := 161) hG dX12_row_161 1 rfl ?_
                  refine q_imul (pc := 162) hG dX12_row_162 (fun v162 e162 => ?_)
                  have r_18 := q_rle r_7 rl_2 g_6.2
                  replace hF := fx_mul hF tl_64 rfl (q_mulN (lo := 0) (hi := 128) e162 rl_64 r_18 (by decide)).1
                  refine q_iload (pc := 163) hG dX12_row_163 3 rfl ?_
                  refine q_iadd (pc := 165) hG dX12_row_165 (fun v165 e165 => ?_)
                  have r_19 := (q_mulN (lo := 0) (hi := 128) e162 rl_64 r_18 (by decide)).2
                  have r_20 := q_rlt r142_5 q_4r c152 63 (by decide)
                  replace hF := fx_add hF rfl rfl (q_addN (lo := 0) (hi := 191) e165 r_19 r_20 (by decide)).1
                  refine q_aload_n (pc := 166) hG dX12_row_166 0 rfl ?_
                  refine q_getR (pc := 167) (k2 := 161) (n2 := 64) hG fl_X12_56 dX12_row_167 hS142.1 tA0 ff_10_26 (fun b167 f167 T167 => ?_)
                  replace hF := fx_R hF f167 rfl
                  have f_21 := (hS142.2 _ _ _ _ tA0 rfl).symm.trans f167
                  refine q_iload (pc := 170) hG dX12_row_170 3 rfl ?_
                  refine q_iald (pc := 172) hG dX12_row_172 hS142.1 ai_161 T167 (q_ix r_20 (by decide)) (fun v172 f172 g172 => ?_)
                  replace hF := fx_I hF f172 rfl
                  have r_22 := (q_addN (lo := 0) (hi := 191) e165 r_19 r_20 (by decide)).2
                  have r_23 := q_neL (c := 1) p3.1 c6 (by decide)
                  refine q_nastG (pc := 173) hG dX12_row_173 hS142 q_3T (q_ix r_22 (by decide)) (q_nrow (by have o0 := (q_addN (lo := 0) (hi := 191) e165 r_19 r_20 (by decide)).1; have o1 := c152; have o2 := (by have q := (q_mulN (lo := 0) (hi := 128) e162 rl_64 r_18 (by decide)).1; rw [tl_64] at q; exact q); have o3 := p3.2.2; have o4 := c6; have o5 := g_6.1; have o6 := g_6.2; have o7 := r_20; have o8 := q_4r; have o9 := r_19; have o10 := r_22; have o11 := r_23; have o12 := r_18; have l13 := tl_0; have l14 := tl_2; unfold q_r at o7 o8 o9 o10 o11 o12; omega) g172) rfl (fun s173 u173 w173 => ?_)
                  replace hF := fx_P hF u173 rfl rfl
                  have m173 : s173 q_3b v165.toInt.toNat = .int v172 := by rw [u173]; exact q_up_same
                  refine q_iload (pc := 174) hG dX12_row_174 2 rfl ?_
                  refine q_aload_n (pc := 176) hG dX12_row_176 0 rfl ?_
                  refine q_getV (pc := 177) (v := .ref b167) hG fl_X12_56 dX12_row_177 tA0 (w173.same tA0 rfl f_21) ?_
                  refine q_iload (pc := 180) hG dX12_row_180 3 rfl ?_
                  refine q_ialdV (pc := 182) (v := .int v172) hG dX12_row_182 T167 (by decide) (by decide) (q_ix r_20 (by decide)) (by rw [u173]; exact (q_keepK T167 q_3T (by decide)).trans f172) ?_
                  refine q_pS (pc := 183) [.int v172] [.int p142_4] hG (c_X12_size τ s173 v172 w173.1) my_X12_size w895 w894 dX12_row_183 rfl rfl (Nat.le_of_ble_eq_true rfl) (by decide) (fun v183 p183 => ?_)
                  replace hF := fx_E hF p183.2.1
                  refine q_iadd (pc := 186) hG dX12_row_186 (fun v186 e186 => ?_)
                  replace hF := fx_B_add hF rfl rfl e186
                  refine q_istore (pc := 187) [(4, .int v186), (0, .ref a0), (1, .int x1), (5, .int p142_5)] hG dX12_row_187 (by decide) rfl ?_
                  obtain ⟨v189, e189⟩ : ∃ z : Int32, z = p142_5 + Int32.ofInt 1 := ⟨_, rfl⟩
                  have h189 := q_incN (lo := 1) (hi := 64) r_20 (by decide) (by decide) e189
                  replace hF := fx_add hF rfl rfl h189.1
                  refine q_iinc (pc := 189) [(5, .int v189), (4, .int v186), (0, .ref a0), (1, .int x1)] hG dX12_row_189 3 rfl e189 (by decide) rfl ?_
                  refine q_goto (pc := 192) 142 hG dX12_row_192 rfl ?_
                  refine q_lv [2, 3, 1, 0] rfl ?_
                  exact ih142 v186 v189 s173 (q_r.mono h189.2 (by decide)) w173 (by rw [u173]; exact (q_keepK tA0 q_3T (by decide)).trans iTP142) (by rw [u173]; exact (q_up_slot (q_n512 r_22 (by decide))).trans i5_142) hF (q_measU hm142 (by have o0 := c152; have o1 := (q_addN (lo := 0) (hi := 191) e165 r_19 r_20 (by decide)).1; have o2 := h189.1; have o3 := (by have q := (q_mulN (lo := 0) (hi := 128) e162 rl_64 r_18 (by decide)).1; rw [tl_64] at q; exact q); have o4 := p3.2.2; have o5 := c6; have o6 := g_6.1; have o7 := g_6.2; have o8 := r_20; have o9 := q_4r; have o10 := r_19; have o11 := r_22; have o12 := h189.2; have o13 := r_23; have o14 := r_18; have l15 := tl_0; have l16 := tl_2; unfold q_r at o8 o9 o10 o11 o12 o13 o14; omega) (h189.2).2)
              refine q_lv [2, 3, 1, 0] rfl ?_
              exact J142 ((64 - (0 : Int32).toInt).toNat + 1) 0 0 s124 (q_r.mono rl_0 (by decide)) w124 m124 (by rw [u124]; exact (q_keepK q_3T tA0 (by decide)).trans i5_58) (by rw [tl_0]; exact hF) (Nat.lt_succ_self _)
            intro c128
            replace hF := fx_eq1 hF rfl rfl c128
            refine q_aload_n (pc := 131) hG dX12_row_131 0 rfl ?_
            refine q_getI (pc := 132) hG fl_X12_136 dX12_row_132 w124.1 tA0 ff_10_7 (fun v132 f132 g132 => ?_)
            replace hF := fx_I hF f132 rfl
            have r_24 := q_rge q_2r r_13 c24
            have r_25 := q_neL (c := 1) p13.1 c16 (by decide)
            have r_26 := q_neL (c := 1) p3.1 c6 (by decide)
            have r_27 := q_rle r_7 rl_2 g_6.2
            exact q_irt hG hE dX12_row_135 ⟨w124, g132, (fx_end hF hF0), (fun t e => by cases e.symm.trans q_2f; exact ⟨0, m124, (by have o0 := p3.2.2; have o1 := c6; have o2 := g_6.1; have o3 := g_6.2; have o4 := p13.2.2; have o5 := c16; have o6 := g_11.1; have o7 := g_11.2; have o8 := c24; have o9 := r_24; have o10 := r_25; have o11 := g132; have o12 := r_26; have o13 := r_27; have o14 := r_13; have l15 := tl_0; have l16 := tl_1; have l17 := tl_2; have l18 := tl_120; unfold q_r at o9 o10 o11 o12 o13 o14; omega)⟩), (fun bn hbn => by cases hbn.symm.trans q_3f; exact Eq.trans (show s124 q_3b (512 : Int32).toInt.toNat = .int q_4v from (by rw [u124]; exact (q_keepK q_3T tA0 (by decide)).trans i5_58)) (Eq.symm q_4g))⟩
          refine q_if_eq (pc := 59) hG 122 dX12_row_59 rfl ?_ ?_
          · intro c59
            replace hF := fx_eq1 hF rfl rfl c59
            refine q_lv [0, 1, 2] rfl ?_
            exact J122 hF
          intro c59
          replace hF := fx_eq2 hF rfl rfl c59
          refine q_aload_n (pc := 62) hG dX12_row_62 0 rfl ?_
          refine q_getV (pc := 63) (v := .int F58) hG fl_X12_126 dX12_row_63 tA0 iF58.1 ?_
          refine q_aload_n (pc := 66) hG dX12_row_66 0 rfl ?_
          refine q_getI (pc := 67) hG fl_X12_129 dX12_row_67 hS58.1 tA0 ff_10_6 (fun v67 f67 g67 => ?_)
          replace hF := fx_I hF f67 rfl
          have J88 : (fx_eq Fv (kJ_X12_row_88 (fx_N σ58) a0 (kL_X12_row_58 a0 q_4v.toInt x1.toInt q_3b n58) x1.toInt)) → q_O X 0 0 τ σ58 88 [(0, .ref a0), (1, .int x1)] [] := by
            intro hF
            unfold kJ_X12_row_88 at hF
            refine q_aload_n (pc := 88) hG dX12_row_88 0 rfl ?_
            refine q_bipush (pc := 89) hG dX12_row_89 kb_44 ?_
            refine q_cVi (pc := 91) [.int 44] [] hG (c_X12_takes τ σ58 a0 44 hS58.1 tA0 (q_r.mono rl_44 (by decide))) my_X12_takes mv_X12_takes w891 dX12_row_91 tA0 (by decide) rfl rfl (Nat.le_of_ble_eq_true rfl) (by decide) (fun v91 s91 p91 => ?_)
            have w91 := hS58.trans p91.1 rfl
            have fq91 := p91.2.2.1
            rewrite [tl_44] at fq91
            replace hF := fx_C hF fq91
            obtain ⟨y91, fy91, ry91, ly91, gy91⟩ := p91.2.2.2 F58 iF58.1
            replace hF := fx_I hF fy91 rfl
            have J118 : ∀ (p118_s0 : Int32) (σ118 : q_V) (F118 : Int32), (q_r p118_s0 0 1) → (q_S md_X12_row τ σ σ118) → (σ118 a0 5 = .int F118 ∧ q_r F118 0 260) → (2 * (260 - F118.toInt) + p118_s0.toInt < 2 * (260 - F58.toInt) + p58_3.toInt) → (σ118 q_3b (512 : Int32).toInt.toNat = .int q_4v) → (fx_eq Fv (kJ_X12_row_118 (kL_X12_row_58 a0 q_4v.toInt x1.toInt q_3b n58) p118_s0.toInt (fx_N σ118) F118.toInt)) → q_O X 0 0 τ σ118 118 [(0, .ref a0), (1, .int x1)] [.int p118_s0] := by
              intro p118_s0 σ118 F118 r118_s0 hS118 iF118 iR118 i5_118 hF
              unfold kJ_X12_row_118 at hF
              refine q_istore_n (pc := 118) [(3, .int p118_s0), (0, .ref a0), (1, .int x1)] hG dX12_row_118 (by decide) rfl ?_
              refine q_goto (pc := 119) 58 hG dX12_row_119 rfl ?_
              refine q_lv [1, 2, 0] rfl ?_
              have r_28 := q_neL (c := 1) r58_3 c59 (by decide)
              exact ih58 p118_s0 σ118 F118 r118_s0 hS118 ⟨iF118.1, iF118.2⟩ i5_118 hF (by have o0 := c59; have o1 := ly91; have o2 := gy91; have o3 := iR118; have o4 := iF118.2; have o5 := iF58.2; have o6 := r118_s0; have o7 := r_28; have o8 := p91.2.1; have o9 := ry91; have o10 := hm58; unfold q_r at o4 o5 o6 o7 o8 o9; omega)
            have J117 : ∀ (σ117 : q_V) (F117 : Int32), (q_S md_X12_row τ σ σ117) → (σ117 a0 5 = .int F117 ∧ q_r F117 0 260) → (F58.toInt ≤ F117.toInt) → (σ117 q_3b (512 : Int32).toInt.toNat = .int q_4v) → (fx_eq Fv (kJ_X12_row_117 (kL_X12_row_58 a0 q_4v.toInt x1.toInt q_3b n58) (fx_N σ117) F117.toInt)) → q_O X 0 0 τ σ117 117 [(0, .ref a0), (1, .int x1)] [] := by
              intro σ117 F117 hS117 iF117 iR117 i5_117 hF
              unfold kJ_X12_row_117 at hF
              refine q_iconst (pc := 117) hG dX12_row_117 ki_0 ?_
              refine q_lv [0, 1] rfl ?_
              have r_29 := q_neL (c := 1) r58_3 c59 (by decide)
              exact J118 0 σ117 F117 (q_r.mono rl_0 (by decide)) hS117 ⟨iF117.1, iF117.2⟩ (by have o0 := c59; have o1 := ly91; have o2 := gy91; have o3 := iR117; have o4 := iF117.2; have o5 := iF58.2; have o6 := r_29; have o7 := p91.2.1; have o8 := ry91; have l9 := tl_0; unfold q_r at o4 o5 o6 o7 o8; omega) i5_117 (by rw [tl_0]; exact hF)
            refine q_if_eq (pc := 94) hG 117 dX12_row_94 rfl ?_ ?_
            · intro c94
              replace hF := fx_eq1 hF rfl rfl c94
              refine q_lv [0, 1] rfl ?_
              have r_30 := q_zeq c94
              exact J117 s91 y91 w91 ⟨fy91, ry91⟩ (by have o0 := ly91; have o1 := gy91; have o2 := c94; have o3 := iF58.2; have o4 := r_30; have o5 := ry91; unfold q_r at o3 o4 o5; omega) (p91.1.same q_3T rfl i5_58) hF
            intro c94
            replace hF := fx_eq2 hF rfl rfl c94
            refine q_aload_n (pc := 97) hG dX12_row_97 0 rfl ?_
            refine q_iload_n (pc := 98) hG dX12_row_98 1 rfl ?_
            have J107 : ∀ (p107_s0 : Int32), (q_r p107_s0 0 1) → (fx_eq Fv (kJ_X12_row_107 (fx_N s91) a0 (kL_X12_row_58 a0 q_4v.toInt x1.toInt q_3b n58) p107_s0.toInt)) → q_O X 0 0 τ s91 107 [(0, .ref a0), (1, .int x1)] [.int p107_s0, .ref a0] := by
              intro p107_s0 r107_s0 hF
              unfold kJ_X12_row_107 at hF
              refine q_cVi (pc := 107) [.int p107_s0] [] hG (c_X12_readsValue τ s91 a0 p107_s0 w91.1 tA0 r107_s0) my_X12_readsValue mv_X12_readsValue w876 dX12_row_107 tA0 (by decide) rfl rfl (Nat.le_of_ble_eq_true rfl) (by decide) (fun v107 s107 p107 => ?_)
              have w107 := w91.trans p107.1 rfl
              replace hF := fx_C hF p107.2.2.1
              obtain ⟨y107, fy107, ry107, ly107⟩ := p107.2.2.2 y91 fy91
              replace hF := fx_I hF fy107 rfl
              refine q_if_eq (pc := 110) hG 117 dX12_row_110 rfl ?_ ?_
              · intro c110
                replace hF := fx_eq1 hF rfl rfl c110
                refine q_lv [0, 1] rfl ?_
                have r_31 := q_neL (c := 1) p91.2.1 c94 (by decide)
                exact J117 s107 y107 w107 ⟨fy107, ry107⟩ (by have o0 := ly91; have o1 := gy91; have o2 := c94; have o3 := ly107; have o4 := iF58.2; have o5 := r_31; have o6 := ry107; have o7 := ry91; unfold q_r at o4 o5 o6 o7; omega) (p107.1.same q_3T rfl (p91.1.same q_3T rfl i5_58)) hF
              intro c110
              replace hF := fx_eq2 hF rfl rfl c110
              refine q_iconst (pc := 113) hG dX12_row_113 ki_1 ?_
              refine q_goto (pc := 114) 118 hG dX12_row_114 rfl ?_
              refine q_lv [0, 1] rfl ?_
              have r_32 := q_neL (c := 1) r58_3 c59 (by decide)
              have r_33 := q_neL (c := 1) p91.2.1 c94 (by decide)
              exact J118 1 s107 y107 (q_r.mono rl_1 (by decide)) w107 ⟨fy107, ry107⟩ (by have o0 := c59; have o1 := ly91; have o2 := gy91; have o3 := c94; have o4 := ly107; have o5 := iF58.2; have o6 := r_32; have o7 := r_33; have o8 := ry107; have o9 := ry91; have l10 := tl_1; unfold q_r at o5 o6 o7 o8 o9; omega) (p107.1.same q_3T rfl (p91.1.same q_3T rfl i5_58)) (by rw [tl_1]; exact hF)
            refine q_if_ne (pc := 99) hG 106 dX12_row_99 rfl ?_ ?_
            · intro c99
              have r_34 := q_rle r_7 rl_2 g_6.2
              replace hF := fx_eq2 hF rfl rfl c99
              refine q_iconst (pc := 106) hG dX12_row_106 ki_0 ?_
              refine q_lv [0, 1] rfl ?_
              exact J107 0 (q_r.mono rl_0 (by decide)) (by rw [tl_0]; exact hF)
            intro c99
            have r_35 := q_rle r_7 rl_2 g_6.2
            replace hF := fx_eq1 hF rfl rfl c99
            refine q_iconst (pc := 102) hG dX12_row_102 ki_1 ?_
            refine q_goto (pc := 103) 107 hG dX12_row_103 rfl ?_
            refine q_lv [0, 1] rfl ?_
            exact J107 1 (q_r.mono rl_1 (by decide)) (by rw [tl_1]; exact hF)
          refine q_icmp_lt (pc := 70) hG 88 dX12_row_70 rfl ?_ ?_
          · intro c70
            replace hF := fx_lt1 hF rfl rfl c70
            refine q_lv [0, 1] rfl ?_
            exact J88 hF
          intro c70
          replace hF := fx_lt2 hF rfl rfl c70
          refine q_aload_n (pc := 73) hG dX12_row_73 0 rfl ?_
          refine q_getI (pc := 74) hG fl_X12_208 dX12_row_74 hS58.1 tA0 ff_10_14 (fun v74 f74 g74 => ?_)
          replace hF := fx_I hF f74 rfl
          refine q_aload_n (pc := 77) hG dX12_row_77 0 rfl ?_
          refine q_getV (pc := 78) (v := .ref q_3b) hG fl_X12_7 dX12_row_78 tA0 (hS58.same tA0 rfl q_3f) ?_
          refine q_sipush (pc := 81) hG dX12_row_81 ks_512 ?_
          refine q_ialdV (pc := 84) (v := .int q_4v) hG dX12_row_84 q_3T (by decide) (by decide) (q_ix rl_512 (by decide)) i5_58 ?_
          refine q_icmp_ge (pc := 85) hG 122 dX12_row_85 rfl ?_ ?_
          · intro c85
            replace hF := fx_lt2 hF rfl rfl c85
            refine q_lv [0, 1, 2] rfl ?_
            exact J122 hF
          intro c85
          replace hF := fx_lt1 hF rfl rfl c85
          refine q_lv [0, 1] rfl ?_
          exact J88 hF
      refine q_lv [1, 2, 0] rfl ?_
      exact J58 ((2 * (260 - y54.toInt) + v54.toInt).toNat + 1) v54 s54 y54 p54.2.1 w54 ⟨fy54, ry54⟩ (p54.1.same q_3T rfl (by rw [u41]; exact (q_keepK q_3T tA0 (by decide)).trans (by rw [u36]; exact (q_keepK q_3T tA0 (by decide)).trans (by rw [u31]; exact (q_keepK q_3T tA0 (by decide)).trans q_4g)))) hF (Nat.lt_succ_self _)
    refine q_if_ne (pc := 46) hG 53 dX12_row_46 rfl ?_ ?_
    · intro c46
      have r_36 := q_rle r_7 rl_2 g_6.2
      replace hF := fx_eq2 hF rfl rfl c46
      refine q_iconst (pc := 53) hG dX12_row_53 ki_0 ?_
      refine q_lv [0, 1] rfl ?_
      exact J54 0 (q_r.mono rl_0 (by decide)) (by rw [tl_0]; exact hF)
    intro c46
    have r_37 := q_rle r_7 rl_2 g_6.2
    replace hF := fx_eq1 hF rfl rfl c46
    refine q_iconst (pc := 49) hG dX12_row_49 ki_1 ?_
    refine q_goto (pc := 50) 54 hG dX12_row_50 rfl ?_
    refine q_lv [0, 1] rfl ?_
    exact J54 1 (q_r.mono rl_1 (by decide)) (by rw [tl_1]; exact hF)
  intro c24
  have r_38 := q_rle r_12 rl_120 g_11.2
  replace hF := fx_lt1 hF rfl rfl c24
  refine q_iconst (pc := 27) hG dX12_row_27 ki_m1 ?_
  have r_39 := q_rlt q_2r r_38 c24 119 (by decide)
  have r_40 := q_neL (c := 1) p13.1 c16 (by decide)
  have r_41 := q_neL (c := 1) p3.1 c6 (by decide)
  have r_42 := q_rle r_7 rl_2 g_6.2
  exact q_irt hG hE dX12_row_28 ⟨hS0, (q_r.mono rl_m1 (by decide)), (by rw [tl_m1]; exact fx_end hF hF0), (fun t e => by cases e.symm.trans q_2f; exact ⟨q_2v, q_2f, (by have o0 := p3.2.2; have o1 := c6; have o2 := g_6.1; have o3 := g_6.2; have o4 := p13.2.2; have o5 := c16; have o6 := g_11.1; have o7 := g_11.2; have o8 := c24; have o9 := r_39; have o10 := r_40; have o11 := r_41; have o12 := r_42; have o13 := r_38; have l14 := tl_m1; have l15 := tl_0; have l16 := tl_1; have l17 := tl_2; have l18 := tl_120; unfold q_r at o9 o10 o11 o12 o13; omega)⟩), (fun bn hbn => by cases hbn.symm.trans q_3f; exact Eq.trans (show σ q_3b (512 : Int32).toInt.toNat = .int q_4v from q_4g) (Eq.symm q_4g))⟩
