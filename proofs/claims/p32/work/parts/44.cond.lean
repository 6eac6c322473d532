/-! laid by wip/p2/build.py -/
theorem dX12_endsPiece_0 : decode cX12_endsPiece 0 = .ok (.aload_n 0, 1) := by decide +kernel
theorem dX12_endsPiece_1 : decode cX12_endsPiece 1 = .ok (.invokevirtual 160, 3) := by decide +kernel
theorem dX12_endsPiece_4 : decode cX12_endsPiece 4 = .ok (.bipush 10, 2) := by decide +kernel
theorem dX12_endsPiece_6 : decode cX12_endsPiece 6 = .ok (.if_icmp .ne 33, 3) := by decide +kernel
theorem dX12_endsPiece_9 : decode cX12_endsPiece 9 = .ok (.aload_n 0, 1) := by decide +kernel
theorem dX12_endsPiece_10 : decode cX12_endsPiece 10 = .ok (.bipush 10, 2) := by decide +kernel
theorem dX12_endsPiece_12 : decode cX12_endsPiece 12 = .ok (.iconst 0, 1) := by decide +kernel
theorem dX12_endsPiece_13 : decode cX12_endsPiece 13 = .ok (.invokevirtual 163, 3) := by decide +kernel
theorem dX12_endsPiece_16 : decode cX12_endsPiece 16 = .ok (.aload_n 0, 1) := by decide +kernel
theorem dX12_endsPiece_17 : decode cX12_endsPiece 17 = .ok (.aload_n 0, 1) := by decide +kernel
theorem dX12_endsPiece_18 : decode cX12_endsPiece 18 = .ok (.getfield 157, 3) := by decide +kernel
theorem dX12_endsPiece_21 : decode cX12_endsPiece 21 = .ok (.iconst 1, 1) := by decide +kernel
theorem dX12_endsPiece_22 : decode cX12_endsPiece 22 = .ok (.isub, 1) := by decide +kernel
theorem dX12_endsPiece_23 : decode cX12_endsPiece 23 = .ok (.putfield 157, 3) := by decide +kernel
theorem dX12_endsPiece_26 : decode cX12_endsPiece 26 = .ok (.aload_n 0, 1) := by decide +kernel
theorem dX12_endsPiece_27 : decode cX12_endsPiece 27 = .ok (.aload_n 0, 1) := by decide +kernel
theorem dX12_endsPiece_28 : decode cX12_endsPiece 28 = .ok (.getfield 154, 3) := by decide +kernel
theorem dX12_endsPiece_31 : decode cX12_endsPiece 31 = .ok (.iconst 1, 1) := by decide +kernel
theorem dX12_endsPiece_32 : decode cX12_endsPiece 32 = .ok (.isub, 1) := by decide +kernel
theorem dX12_endsPiece_33 : decode cX12_endsPiece 33 = .ok (.putfield 154, 3) := by decide +kernel
theorem dX12_endsPiece_36 : decode cX12_endsPiece 36 = .ok (.goto (-36), 3) := by decide +kernel
theorem dX12_endsPiece_39 : decode cX12_endsPiece 39 = .ok (.return_, 1) := by decide +kernel
def md_X12_endsPiece : List (Nat × Nat) := [(10, 9), (10, 10), (10, 11), (150, 0)]
set_option maxRecDepth 100000 in
set_option maxHeartbeats 4000000 in
theorem c_X12_endsPiece {l : Launch} {D : q_D} (τ : q_T) (σ : q_V) (a0 : Nat) (hI : q_I τ σ) (tA0 : τ a0 = some (10, 1)) (bs bw : Nat) (hbs : σ a0 15 = .ref bs) (hbw : σ a0 16 = .ref bw) (Tbs : τ bs = some (150, 260)) (Tbw : τ bw = some (151, 260)) (cq wq pq : Int32) (hcq : σ a0 10 = .int cq) (hwq : σ a0 11 = .int wq) (hpq : σ a0 5 = .int pq) (S0 : Nat → Value) (F : Nat) (K : Int) (hQ : q_cn (σ bs) (σ bw) S0 F cq.toInt wq.toInt K pq.toInt 1) (h1w : 1 ≤ wq.toInt) : q_Cv l D yX12_endsPiece cX12_endsPiece 1 none 1 22 τ σ [.ref a0] (fun σ1 => q_S md_X12_endsPiece τ σ σ1 ∧ (fx_N σ1 = f_X12_endsPiece (fx_N σ) a0) ∧ (q_x (∃ c1 w1 : Int32, σ1 a0 10 = .int c1 ∧ σ1 a0 11 = .int w1 ∧ q_cn (σ1 bs) (σ bw) S0 F c1.toInt w1.toInt K pq.toInt 1 ∧ 1 ≤ w1.toInt))) := by
  refine q_metv rfl (Nat.le_of_ble_eq_true rfl) (fun X hG hE => ?_)
  show q_O X 0 0 τ σ 0 [(0, .ref a0)] []
  have hS0 : q_S md_X12_endsPiece τ σ σ := q_S.rf hI
  obtain ⟨Fv, hF⟩ : ∃ z, fx_eq z (f_X12_endsPiece (fx_N σ) a0) := ⟨_, fx_rf⟩
  have hF0 := hF
  unfold f_X12_endsPiece at hF
  replace hF := fx_R hF hbs rfl
  replace hF := fx_R hF hbw rfl
  replace hF := fx_I hF hpq rfl
  replace hF := fx_I hF hcq rfl
  replace hF := fx_I hF hwq rfl
  have J0 : ∀ (n0 : Nat) (σ0 : q_V) (cq0 : Int32) (wq0 : Int32) (pq0 : Int32), (q_S md_X12_endsPiece τ σ σ0) → ((σ0 a0 10 = .int cq0 ∧ σ0 a0 11 = .int wq0 ∧ σ0 a0 5 = .int pq) ∧ q_cn (σ0 bs) (σ bw) S0 F cq0.toInt wq0.toInt K pq.toInt 1 ∧ 1 ≤ wq0.toInt) → (fx_eq Fv (kL_X12_endsPiece_0 a0 pq.toInt n0 (fx_N σ0) cq0.toInt wq0.toInt pq0.toInt)) → (wq0.toInt.toNat < n0) → q_O X 0 0 τ σ0 0 [(0, .ref a0)] [] := by
    intro n0
    induction n0 with
    | zero => intro σ0 cq0 wq0 pq0 hS0 iQ0 hF hm0; exact absurd hm0 (Nat.not_lt_zero _)
    | succ n0 ih0 =>
      intro σ0 cq0 wq0 pq0 hS0 iQ0 hF hm0
      replace hF := (show fx_eq Fv (kB_X12_endsPiece_0 (kL_X12_endsPiece_0 a0 pq.toInt n0) a0 pq.toInt (fx_N σ0) cq0.toInt wq0.toInt pq0.toInt) from hF)
      unfold kB_X12_endsPiece_0 at hF
      refine q_aload_n (pc := 0) hG dX12_endsPiece_0 0 rfl ?_
      have r_1 := (show q_r wq0 0 260 from ⟨by have q := iQ0.2.1.rng; omega, by have q := iQ0.2.1.rng; omega⟩)
      refine q_pV (pc := 1) [] [] hG (c_X12_waitTop τ σ0 a0 hS0.1 tA0 bw (hS0.same tA0 rfl hbw) Tbw wq0 iQ0.1.2.1 r_1 (show q_cn (σ0 bs) (σ0 bw) S0 F cq0.toInt wq0.toInt K pq.toInt 1 from (by rw [((funext fun j => hS0.2.arr Tbw (by decide) rfl) : σ0 bw = σ bw)]; exact iQ0.2.1)).1.wn) my_X12_waitTop mv_X12_waitTop w932 dX12_endsPiece_1 tA0 (by decide) rfl rfl (Nat.le_of_ble_eq_true rfl) (by decide) (fun v1 p1 => ?_)
      replace hF := fx_E hF p1.2.1
      have t1 : v1.toInt = q_wt (σ bw) wq0.toInt := (by have q := p1.2.2; rw [((funext fun j => hS0.2.arr Tbw (by decide) rfl) : σ0 bw = σ bw)] at q; exact q)
      refine q_bipush (pc := 4) hG dX12_endsPiece_4 kb_10 ?_
      refine q_icmp_ne (pc := 6) hG 39 dX12_endsPiece_6 rfl ?_ ?_
      · intro c6
        replace hF := fx_eq2 hF rfl tl_10 c6
        exact q_vrt hG hE dX12_endsPiece_39 ⟨hS0, (fx_end hF hF0), q_x.mk ⟨cq0, wq0, iQ0.1.1, iQ0.1.2.1, iQ0.2.1, iQ0.2.2⟩⟩
      intro c6
      replace hF := fx_eq1 hF rfl tl_10 c6
      refine q_aload_n (pc := 9) hG dX12_endsPiece_9 0 rfl ?_
      have r_2 := (show q_r cq 0 260 from ⟨by have q := hQ.rng; omega, by have q := hQ.rng; omega⟩)
      have r_3 := (show q_r cq0 0 260 from ⟨by have q := iQ0.2.1.rng; omega, by have q := iQ0.2.1.rng; omega⟩)
      have r_4 := (show q_r pq 0 260 from ⟨by have q := hQ.rng; omega, by have q := hQ.rng; omega⟩)
      have r_5 := q_req rl_10 c6
      have r_6 := (show q_r wq 0 260 from ⟨by have q := hQ.rng; omega, by have q := hQ.rng; omega⟩)
      have wp9 := (q_wt_pos (fw := σ bw) (w := wq0.toInt) (by have o0 := iQ0.2.1.rng; have o1 := iQ0.2.2; have o2 := t1; have o3 := c6; have o4 := hQ.rng; have o5 := h1w; have o6 := r_2; have o7 := r_3; have o8 := r_4; have o9 := r_5; have o10 := r_6; have o11 := r_1; have l12 := tl_10; unfold q_r at o6 o7 o8 o9 o10 o11; omega))
      refine q_bipush (pc := 10) hG dX12_endsPiece_10 kb_10 ?_
      refine q_iconst (pc := 12) hG dX12_endsPiece_12 ki_0 ?_
      refine q_cVv (pc := 13) [.int 10, .int 0] [] hG (c_X12_notes τ σ0 a0 10 0 hS0.1 tA0 (q_r.mono rl_10 (by decide)) (q_r.mono rl_0 (by decide)) bs (hS0.same tA0 rfl hbs) Tbs cq0 iQ0.1.1 (show q_r cq0 0 259 from q_bn.one iQ0.2.1.2.1 (Or.inr (by have o0 := iQ0.2.1.rng; have o1 := iQ0.2.2; have o2 := t1; have o3 := c6; have o4 := wp9.1; have o5 := hQ.rng; have o6 := h1w; have o7 := r_2; have o8 := r_3; have o9 := r_4; have o10 := r_5; have o11 := r_6; have o12 := r_1; have l13 := tl_10; unfold q_r at o7 o8 o9 o10 o11 o12; omega)))) my_X12_notes mv_X12_notes w920 dX12_endsPiece_13 tA0 (by decide) rfl rfl (Nat.le_of_ble_eq_true rfl) (by decide) (fun s13 p13 => ?_)
      have w13 := hS0.trans p13.1 rfl
      have fq13 := p13.2.1
      rewrite [tl_0, tl_10] at fq13
      replace hF := fx_S hF fq13
      obtain ⟨xn13, c1_13, en13, fx13, fc1_13, gc1_13⟩ := p13.2.2
      replace hF := fx_I hF fc1_13 rfl
      refine q_aload_n (pc := 16) hG dX12_endsPiece_16 0 rfl ?_
      refine q_aload_n (pc := 17) hG dX12_endsPiece_17 0 rfl ?_
      refine q_getV (pc := 18) (v := .int wq0) hG fl_X12_157 dX12_endsPiece_18 tA0 (p13.1.same tA0 rfl iQ0.1.2.1) ?_
      refine q_iconst (pc := 21) hG dX12_endsPiece_21 ki_1 ?_
      refine q_isub (pc := 22) hG dX12_endsPiece_22 (fun v22 e22 => ?_)
      replace hF := fx_sub hF rfl tl_1 (q_subN (lo := (-1)) (hi := 259) e22 r_1 rl_1 (by decide)).1
      have r_7 := (show q_r c1_13 1 260 from ⟨by have q := gc1_13; have q2 := (show q_r cq0 0 259 from q_bn.one iQ0.2.1.2.1 (Or.inr (by have o0 := iQ0.2.1.rng; have o1 := iQ0.2.2; have o2 := t1; have o3 := c6; have o4 := wp9.1; have o5 := hQ.rng; have o6 := h1w; have o7 := r_2; have o8 := r_3; have o9 := r_4; have o10 := r_5; have o11 := r_6; have o12 := r_1; have l13 := tl_10; unfold q_r at o7 o8 o9 o10 o11 o12; omega))); unfold q_r at q2; omega, by have q := gc1_13; have q2 := (show q_r cq0 0 259 from q_bn.one iQ0.2.1.2.1 (Or.inr (by have o0 := iQ0.2.1.rng; have o1 := iQ0.2.2; have o2 := t1; have o3 := c6; have o4 := wp9.1; have o5 := hQ.rng; have o6 := h1w; have o7 := r_2; have o8 := r_3; have o9 := r_4; have o10 := r_5; have o11 := r_6; have o12 := r_1; have l13 := tl_10; unfold q_r at o7 o8 o9 o10 o11 o12; omega))); unfold q_r at q2; omega⟩)
      have r_8 := (q_subN (lo := (-1)) (hi := 259) e22 r_1 rl_1 (by decide)).2
      refine q_putI (pc := 23) hG fl_X12_157 dX12_endsPiece_23 w13 tA0 ff_10_11 (show q_r v22 0 260 from ⟨(by have o0 := (q_subN (lo := (-1)) (hi := 259) e22 r_1 rl_1 (by decide)).1; have o1 := iQ0.2.1.rng; have o2 := iQ0.2.2; have o3 := t1; have o4 := c6; have o5 := wp9.1; have o6 := gc1_13; have o7 := hQ.rng; have o8 := h1w; have o9 := r_7; have o10 := r_2; have o11 := r_3; have o12 := r_4; have o13 := r_5; have o14 := r_8; have o15 := r_6; have o16 := r_1; have l17 := tl_1; have l18 := tl_10; unfold q_r at o9 o10 o11 o12 o13 o14 o15 o16; omega), (by have o0 := (q_subN (lo := (-1)) (hi := 259) e22 r_1 rl_1 (by decide)).1; have o1 := iQ0.2.1.rng; have o2 := iQ0.2.2; have o3 := t1; have o4 := c6; have o5 := wp9.1; have o6 := gc1_13; have o7 := hQ.rng; have o8 := h1w; have o9 := r_7; have o10 := r_2; have o11 := r_3; have o12 := r_4; have o13 := r_5; have o14 := r_8; have o15 := r_6; have o16 := r_1; have l17 := tl_1; have l18 := tl_10; unfold q_r at o9 o10 o11 o12 o13 o14 o15 o16; omega)⟩) (by decide) rfl (fun s23 u23 w23 => ?_)
      replace hF := fx_P hF u23 rfl rfl
      have m23 : s23 a0 11 = .int v22 := by rw [u23]; exact q_up_same
      refine q_aload_n (pc := 26) hG dX12_endsPiece_26 0 rfl ?_
      refine q_aload_n (pc := 27) hG dX12_endsPiece_27 0 rfl ?_
      refine q_getI (pc := 28) hG fl_X12_154 dX12_endsPiece_28 w23.1 tA0 ff_10_9 (fun v28 f28 g28 => ?_)
      replace hF := fx_I hF f28 rfl
      refine q_iconst (pc := 31) hG dX12_endsPiece_31 ki_1 ?_
      refine q_isub (pc := 32) hG dX12_endsPiece_32 (fun v32 e32 => ?_)
      replace hF := fx_B_sub hF rfl tl_1 e32
      refine q_putI (pc := 33) hG fl_X12_154 dX12_endsPiece_33 w23 tA0 ff_10_9 (q_r_any v32) (by decide) rfl (fun s33 u33 w33 => ?_)
      replace hF := fx_P hF u33 rfl rfl
      have m33 : s33 a0 9 = .int v32 := by rw [u33]; exact q_up_same
      have nn13 := iQ0.2.1.not (x := xn13) (q_wt_pos (fw := σ bw) (w := wq0.toInt) (by have o0 := iQ0.2.1.rng; have o1 := iQ0.2.2; have o2 := t1; have o3 := c6; have o4 := wp9.1; have o5 := gc1_13; have o6 := (q_subN (lo := (-1)) (hi := 259) e22 r_1 rl_1 (by decide)).1; have o7 := hQ.rng; have o8 := h1w; have o9 := r_7; have o10 := r_2; have o11 := r_3; have o12 := r_4; have o13 := r_5; have o14 := r_8; have o15 := r_6; have o16 := r_1; have l17 := tl_1; have l18 := tl_10; unfold q_r at o9 o10 o11 o12 o13 o14 o15 o16; omega)).1 ((q_wt_pos (fw := σ bw) (w := wq0.toInt) (by have o0 := iQ0.2.1.rng; have o1 := iQ0.2.2; have o2 := t1; have o3 := c6; have o4 := wp9.1; have o5 := gc1_13; have o6 := (q_subN (lo := (-1)) (hi := 259) e22 r_1 rl_1 (by decide)).1; have o7 := hQ.rng; have o8 := h1w; have o9 := r_7; have o10 := r_2; have o11 := r_3; have o12 := r_4; have o13 := r_5; have o14 := r_8; have o15 := r_6; have o16 := r_1; have l17 := tl_1; have l18 := tl_10; unfold q_r at o9 o10 o11 o12 o13 o14 o15 o16; omega)).2.trans (by have o0 := iQ0.2.1.rng; have o1 := iQ0.2.2; have o2 := t1; have o3 := c6; have o4 := wp9.1; have o5 := gc1_13; have o6 := (q_subN (lo := (-1)) (hi := 259) e22 r_1 rl_1 (by decide)).1; have o7 := hQ.rng; have o8 := h1w; have o9 := r_7; have o10 := r_2; have o11 := r_3; have o12 := r_4; have o13 := r_5; have o14 := r_8; have o15 := r_6; have o16 := r_1; have l17 := tl_1; have l18 := tl_10; unfold q_r at o9 o10 o11 o12 o13 o14 o15 o16; omega)) (by have o0 := fx13; have l1 := tl_0; have l2 := tl_10; omega)
      have Q33 : q_cn (s33 bs) (σ bw) S0 F c1_13.toInt v22.toInt K pq.toInt 1 := by
        rw [((by rw [u33]; exact q_upK Tbs tA0 (by decide) : s33 bs = s23 bs).trans (by rw [u23]; exact q_upK Tbs tA0 (by decide) : s23 bs = s13 bs)), en13, gc1_13, (show v22.toInt = wq0.toInt - 1 from (by have o0 := iQ0.2.1.rng; have o1 := iQ0.2.2; have o2 := t1; have o3 := c6; have o4 := wp9.1; have o5 := gc1_13; have o6 := (q_subN (lo := (-1)) (hi := 259) e22 r_1 rl_1 (by decide)).1; have o7 := hQ.rng; have o8 := h1w; have o9 := r_7; have o10 := r_2; have o11 := r_3; have o12 := r_4; have o13 := r_5; have o14 := r_8; have o15 := r_6; have o16 := r_1; have l17 := tl_1; have l18 := tl_10; unfold q_r at o9 o10 o11 o12 o13 o14 o15 o16; omega))]
        exact nn13.1
      refine q_goto (pc := 36) 0 hG dX12_endsPiece_36 rfl ?_
      refine q_lv [0] rfl ?_
      have r_9 := (show q_r v22 0 260 from ⟨by have q := Q33.rng; omega, by have q := Q33.rng; omega⟩)
      exact ih0 s33 c1_13 v22 pq w33 ⟨⟨(by rw [u33]; exact (q_up_else (Or.inr (by decide))).trans (by rw [u23]; exact (q_up_else (Or.inr (by decide))).trans fc1_13)), (by rw [u33]; exact (q_up_else (Or.inr (by decide))).trans m23), (w33.same tA0 rfl hpq)⟩, Q33, (by have o0 := (q_subN (lo := (-1)) (hi := 259) e22 r_1 rl_1 (by decide)).1; have o1 := Q33.rng; have o2 := nn13.2; have o3 := hQ.rng; have o4 := h1w; have o5 := iQ0.2.1.rng; have o6 := iQ0.2.2; have o7 := t1; have o8 := c6; have o9 := wp9.1; have o10 := gc1_13; have o11 := r_7; have o12 := r_2; have o13 := r_3; have o14 := r_4; have o15 := r_5; have o16 := r_9; have o17 := r_6; have o18 := r_1; have l19 := tl_1; have l20 := tl_10; unfold q_r at o11 o12 o13 o14 o15 o16 o17 o18; omega)⟩ hF (by have o0 := iQ0.2.1.rng; have o1 := iQ0.2.2; have o2 := t1; have o3 := c6; have o4 := wp9.1; have o5 := gc1_13; have o6 := (q_subN (lo := (-1)) (hi := 259) e22 r_1 rl_1 (by decide)).1; have o7 := Q33.rng; have o8 := nn13.2; have o9 := hQ.rng; have o10 := h1w; have o11 := r_7; have o12 := r_2; have o13 := r_3; have o14 := r_4; have o15 := r_5; have o16 := r_9; have o17 := r_6; have o18 := r_1; have l19 := tl_1; have l20 := tl_10; have o21 := hm0; unfold q_r at o11 o12 o13 o14 o15 o16 o17 o18; omega)
  refine q_lv [0] rfl ?_
  have r_10 := (show q_r cq 0 260 from ⟨by have q := hQ.rng; omega, by have q := hQ.rng; omega⟩)
  have r_11 := (show q_r pq 0 260 from ⟨by have q := hQ.rng; omega, by have q := hQ.rng; omega⟩)
  have r_12 := (show q_r wq 0 260 from ⟨by have q := hQ.rng; omega, by have q := hQ.rng; omega⟩)
  exact J0 (wq.toInt.toNat + 1) σ cq wq pq hS0 ⟨⟨hcq, hwq, hpq⟩, hQ, (by have o0 := hQ.rng; have o1 := h1w; have o2 := r_10; have o3 := r_11; have o4 := r_12; unfold q_r at o2 o3 o4; omega)⟩ hF (Nat.lt_succ_self _)
theorem dX12_lands_0 : decode cX12_lands 0 = .ok (.aload_n 0, 1) := by decide +kernel
theorem dX12_lands_1 : decode cX12_lands 1 = .ok (.invokevirtual 160, 3) := by decide +kernel
theorem dX12_lands_4 : decode cX12_lands 4 = .ok (.bipush 11, 2) := by decide +kernel
theorem dX12_lands_6 : decode cX12_lands 6 = .ok (.if_icmp .eq 16, 3) := by decide +kernel
theorem dX12_lands_9 : decode cX12_lands 9 = .ok (.iload_n 1, 1) := by decide +kernel
theorem dX12_lands_10 : decode cX12_lands 10 = .ok (.ifCond .eq 63, 3) := by decide +kernel
theorem dX12_lands_13 : decode cX12_lands 13 = .ok (.aload_n 0, 1) := by decide +kernel
theorem dX12_lands_14 : decode cX12_lands 14 = .ok (.invokevirtual 160, 3) := by decide +kernel
theorem dX12_lands_17 : decode cX12_lands 17 = .ok (.bipush 12, 2) := by decide +kernel
theorem dX12_lands_19 : decode cX12_lands 19 = .ok (.if_icmp .ne 54, 3) := by decide +kernel
theorem dX12_lands_22 : decode cX12_lands 22 = .ok (.aload_n 0, 1) := by decide +kernel
theorem dX12_lands_23 : decode cX12_lands 23 = .ok (.getfield 26, 3) := by decide +kernel
theorem dX12_lands_26 : decode cX12_lands 26 = .ok (.aload_n 0, 1) := by decide +kernel
theorem dX12_lands_27 : decode cX12_lands 27 = .ok (.getfield 157, 3) := by decide +kernel
theorem dX12_lands_30 : decode cX12_lands 30 = .ok (.iconst 1, 1) := by decide +kernel
theorem dX12_lands_31 : decode cX12_lands 31 = .ok (.isub, 1) := by decide +kernel
theorem dX12_lands_32 : decode cX12_lands 32 = .ok (.iaload, 1) := by decide +kernel
theorem dX12_lands_33 : decode cX12_lands 33 = .ok (.ldc 153, 2) := by decide +kernel
theorem dX12_lands_35 : decode cX12_lands 35 = .ok (.irem, 1) := by decide +kernel
theorem dX12_lands_36 : decode cX12_lands 36 = .ok (.istore_n 2, 1) := by decide +kernel
theorem dX12_lands_37 : decode cX12_lands 37 = .ok (.aload_n 0, 1) := by decide +kernel
theorem dX12_lands_38 : decode cX12_lands 38 = .ok (.getfield 23, 3) := by decide +kernel
theorem dX12_lands_41 : decode cX12_lands 41 = .ok (.iload_n 2, 1) := by decide +kernel
theorem dX12_lands_42 : decode cX12_lands 42 = .ok (.ldc 153, 2) := by decide +kernel
theorem dX12_lands_44 : decode cX12_lands 44 = .ok (.aload_n 0, 1) := by decide +kernel
theorem dX12_lands_45 : decode cX12_lands 45 = .ok (.getfield 23, 3) := by decide +kernel
theorem dX12_lands_48 : decode cX12_lands 48 = .ok (.iload_n 2, 1) := by decide +kernel
theorem dX12_lands_49 : decode cX12_lands 49 = .ok (.iaload, 1) := by decide +kernel
theorem dX12_lands_50 : decode cX12_lands 50 = .ok (.ldc 153, 2) := by decide +kernel
theorem dX12_lands_52 : decode cX12_lands 52 = .ok (.idiv, 1) := by decide +kernel
theorem dX12_lands_53 : decode cX12_lands 53 = .ok (.imul, 1) := by decide +kernel
theorem dX12_lands_54 : decode cX12_lands 54 = .ok (.aload_n 0, 1) := by decide +kernel
theorem dX12_lands_55 : decode cX12_lands 55 = .ok (.getfield 150, 3) := by decide +kernel
theorem dX12_lands_58 : decode cX12_lands 58 = .ok (.iadd, 1) := by decide +kernel
theorem dX12_lands_59 : decode cX12_lands 59 = .ok (.iastore, 1) := by decide +kernel
theorem dX12_lands_60 : decode cX12_lands 60 = .ok (.aload_n 0, 1) := by decide +kernel
theorem dX12_lands_61 : decode cX12_lands 61 = .ok (.aload_n 0, 1) := by decide +kernel
theorem dX12_lands_62 : decode cX12_lands 62 = .ok (.getfield 157, 3) := by decide +kernel
theorem dX12_lands_65 : decode cX12_lands 65 = .ok (.iconst 1, 1) := by decide +kernel
theorem dX12_lands_66 : decode cX12_lands 66 = .ok (.isub, 1) := by decide +kernel
theorem dX12_lands_67 : decode cX12_lands 67 = .ok (.putfield 157, 3) := by decide +kernel
theorem dX12_lands_70 : decode cX12_lands 70 = .ok (.goto (-70), 3) := by decide +kernel
theorem dX12_lands_73 : decode cX12_lands 73 = .ok (.return_, 1) := by decide +kernel
def md_X12_lands : List (Nat × Nat) := [(10, 11), (150, 0)]
set_option maxRecDepth 100000 in
set_option maxHeartbeats 4000000 in
theorem c_X12_lands {l : Launch} {D : q_D} (τ : q_T) (σ : q_V) (a0 : Nat) (x1 : Int32) (hI : q_I τ σ) (tA0 : τ a0 = some (10, 1)) (rA1 : q_r x1 0 1) (bs bw : Nat) (hbs : σ a0 15 = .ref bs) (hbw : σ a0 16 = .ref bw) (Tbs : τ bs = some (150, 260)) (Tbw : τ bw = some (151, 260)) (cq wq pq : Int32) (hcq : σ a0 10 = .int cq) (hwq : σ a0 11 = .int wq) (hpq : σ a0 5 = .int pq) (S0 : Nat → Value) (F : Nat) (K : Int) (hQ : q_cn (σ bs) (σ bw) S0 F cq.toInt wq.toInt K pq.toInt 1) (h1w : 1 ≤ wq.toInt) : q_Cv l D yX12_lands cX12_lands 3 none 1 20 τ σ [.ref a0, .int x1] (fun σ1 => q_S md_X12_lands τ σ σ1 ∧ (fx_N σ1 = f_X12_lands (fx_N σ) a0 x1.toInt) ∧ (q_x (∃ w1 : Int32, σ1 a0 11 = .int w1 ∧ q_cn (σ1 bs) (σ bw) S0 F cq.toInt w1.toInt K pq.toInt 1 ∧ 1 ≤ w1.toInt ∧ (x1.toInt = 1 → ¬ (q_wt (σ bw) w1.toInt = 11 ∨ q_wt (σ bw) w1.toInt = 12))))) := by
  refine q_metv rfl (Nat.le_of_ble_eq_true rfl) (fun X hG hE => ?_)
  show q_O X 0 0 τ σ 0 [(0, .ref a0), (1, .int x1)] []
  have hS0 : q_S md_X12_lands τ σ σ := q_S.rf hI
  obtain ⟨Fv, hF⟩ : ∃ z, fx_eq z (f_X12_lands (fx_N σ) a0 x1.toInt) := ⟨_, fx_rf⟩
  have hF0 := hF
  unfold f_X12_lands at hF
  replace hF := fx_R hF hbs rfl
  replace hF := fx_R hF hbw rfl
  replace hF := fx_I hF hcq rfl
  replace hF := fx_I hF hpq rfl
  replace hF := fx_I hF hwq rfl
  have J0 : ∀ (n0 : Nat) (σ0 : q_V) (cq0 : Int32) (wq0 : Int32) (pq0 : Int32), (q_S md_X12_lands τ σ σ0) → ((σ0 a0 10 = .int cq ∧ σ0 a0 11 = .int wq0 ∧ σ0 a0 5 = .int pq) ∧ q_cn (σ0 bs) (σ bw) S0 F cq.toInt wq0.toInt K pq.toInt 1 ∧ 1 ≤ wq0.toInt) → (fx_eq Fv (kL_X12_lands_0 a0 bw bs cq.toInt pq.toInt x1.toInt n0 (fx_N σ0) cq0.toInt wq0.toInt pq0.toInt)) → (wq0.toInt.toNat < n0) → q_O X 0 0 τ σ0 0 [(0, .ref a0), (1, .int x1)] [] := by
    intro n0
    induction n0 with
    | zero => intro σ0 cq0 wq0 pq0 hS0 iQ0 hF hm0; exact absurd hm0 (Nat.not_lt_zero _)
    | succ n0 ih0 =>
      intro σ0 cq0 wq0 pq0 hS0 iQ0 hF hm0
      replace hF := (show fx_eq Fv (kB_X12_lands_0 (kL_X12_lands_0 a0 bw bs cq.toInt pq.toInt x1.toInt n0) a0 bw bs cq.toInt pq.toInt x1.toInt (fx_N σ0) cq0.toInt wq0.toInt pq0.toInt) from hF)
      unfold kB_X12_lands_0 at hF
      refine q_aload_n (pc := 0) hG dX12_lands_0 0 rfl ?_
      have r_1 := (show q_r wq0 0 260 from ⟨by have q := iQ0.2.1.rng; omega, by have q := iQ0.2.1.rng; omega⟩)
      refine q_pV (pc := 1) [] [] hG (c_X12_waitTop τ σ0 a0 hS0.1 tA0 bw (hS0.same tA0 rfl hbw) Tbw wq0 iQ0.1.2.1 r_1 (show q_cn (σ0 bs) (σ0 bw) S0 F cq.toInt wq0.toInt K pq.toInt 1 from (by rw [((funext fun j => hS0.2.arr Tbw (by decide) rfl) : σ0 bw = σ bw)]; exact iQ0.2.1)).1.wn) my_X12_waitTop mv_X12_waitTop w932 dX12_lands_1 tA0 (by decide) rfl rfl (Nat.le_of_ble_eq_true rfl) (by decide) (fun v1 p1 => ?_)
      replace hF := fx_E hF p1.2.1
      have t1 : v1.toInt = q_wt (σ bw) wq0.toInt := (by have q := p1.2.2; rw [((funext fun j => hS0.2.arr Tbw (by decide) rfl) : σ0 bw = σ bw)] at q; exact q)
      refine q_bipush (pc := 4) hG dX12_lands_4 kb_11 ?_
      have J22 : (q_wt (σ bw) wq0.toInt = 11 ∨ q_wt (σ bw) wq0.toInt = 12) → (fx_eq Fv (kJ_X12_lands_22 wq0.toInt (fx_N σ0) bw bs cq.toInt a0 (kL_X12_lands_0 a0 bw bs cq.toInt pq.toInt x1.toInt n0) pq.toInt)) → q_O X 0 0 τ σ0 22 [(0, .ref a0), (1, .int x1)] [] := by
        intro iT22 hF
        unfold kJ_X12_lands_22 at hF
        refine q_aload_n (pc := 22) hG dX12_lands_22 0 rfl ?_
        have r_2 := (show q_r cq 0 260 from ⟨by have q := hQ.rng; omega, by have q := hQ.rng; omega⟩)
        have r_3 := (show q_r pq 0 260 from ⟨by have q := hQ.rng; omega, by have q := hQ.rng; omega⟩)
        have r_4 := (show q_r wq 0 260 from ⟨by have q := hQ.rng; omega, by have q := hQ.rng; omega⟩)
        have wp22 := (q_wt_pos (fw := σ bw) (w := wq0.toInt) (by have o0 := iQ0.2.1.rng; have o1 := iQ0.2.2; have o2 := t1; have o3 := iT22; have o4 := hQ.rng; have o5 := h1w; have o6 := r_2; have o7 := r_3; have o8 := p1.1; have o9 := r_4; have o10 := r_1; unfold q_r at o6 o7 o8 o9 o10; omega))
        have hk22 : q_kd (σ bw (wq0.toInt - 1).toNat) = 11 ∨ q_kd (σ bw (wq0.toInt - 1).toNat) = 12 := by rw [wp22.2]; exact (by have o0 := iQ0.2.1.rng; have o1 := iQ0.2.2; have o2 := t1; have o3 := iT22; have o4 := wp22.1; have o5 := hQ.rng; have o6 := h1w; have o7 := r_2; have o8 := r_3; have o9 := p1.1; have o10 := r_4; have o11 := r_1; unfold q_r at o7 o8 o9 o10 o11; omega)
        obtain ⟨lo1, lo2, lo3, lz, lo4, lo5, lo6⟩ := iQ0.2.1.lop wp22.1 hk22
        obtain ⟨ly, ly1, ly2, -⟩ := iQ0.2.1.1.2 (wq0.toInt - 1).toNat (by have o0 := iQ0.2.1.rng; have o1 := iQ0.2.2; have o2 := t1; have o3 := iT22; have o4 := wp22.1; have o5 := hQ.rng; have o6 := h1w; have o7 := r_2; have o8 := r_3; have o9 := p1.1; have o10 := r_4; have o11 := r_1; unfold q_r at o7 o8 o9 o10 o11; omega)
        refine q_getV (pc := 23) (v := .ref bw) hG fl_X12_26 dX12_lands_23 tA0 (hS0.same tA0 rfl hbw) ?_
        refine q_aload_n (pc := 26) hG dX12_lands_26 0 rfl ?_
        refine q_getV (pc := 27) (v := .int wq0) hG fl_X12_157 dX12_lands_27 tA0 iQ0.1.2.1 ?_
        refine q_iconst (pc := 30) hG dX12_lands_30 ki_1 ?_
        refine q_isub (pc := 31) hG dX12_lands_31 (fun v31 e31 => ?_)
        replace hF := fx_sub hF rfl tl_1 (q_subN (lo := (-1)) (hi := 259) e31 r_1 rl_1 (by decide)).1
        have r_5 := (q_subN (lo := (-1)) (hi := 259) e31 r_1 rl_1 (by decide)).2
        refine q_iald (pc := 32) hG dX12_lands_32 hS0.1 ai_151 Tbw (by have o0 := (q_subN (lo := (-1)) (hi := 259) e31 r_1 rl_1 (by decide)).1; have o1 := iQ0.2.1.rng; have o2 := iQ0.2.2; have o3 := t1; have o4 := iT22; have o5 := wp22.1; have o6 := hQ.rng; have o7 := h1w; have o8 := r_2; have o9 := r_3; have o10 := p1.1; have o11 := r_5; have o12 := r_4; have o13 := r_1; have l14 := tl_1; unfold q_r at o8 o9 o10 o11 o12 o13; omega) (fun v32 f32 g32 => ?_)
        replace hF := fx_I hF f32 rfl
        have f_6 := (hS0.2 _ _ _ _ Tbw rfl).symm.trans f32
        have ei32 : (v31.toInt).toNat = (wq0.toInt - 1).toNat := by rw [show v31.toInt = wq0.toInt - 1 from (by have o0 := iQ0.2.1.rng; have o1 := iQ0.2.2; have o2 := t1; have o3 := iT22; have o4 := wp22.1; have o5 := (q_subN (lo := (-1)) (hi := 259) e31 r_1 rl_1 (by decide)).1; have o6 := hQ.rng; have o7 := h1w; have o8 := r_2; have o9 := r_3; have o10 := p1.1; have o11 := r_5; have o12 := r_4; have o13 := r_1; have l14 := tl_1; unfold q_r at o8 o9 o10 o11 o12 o13; omega)]
        have fl32 : σ bw (wq0.toInt - 1).toNat = .int v32 := by rw [← ei32]; exact f_6
        have e32b : ly = v32 := by cases fl32.symm.trans ly1; rfl
        rw [e32b] at ly1 ly2
        have z32 := q_zge (q_r_any v32) ly2
        refine q_ldc (pc := 33) hG w916 dX12_lands_33 ?_
        refine q_irem (pc := 35) hG dX12_lands_35 (q_nzr rl_1048576 (by decide)) (fun v35 e35 => ?_)
        replace hF := fx_mod hF rfl tl_1048576 (q_remP e35 z32 rl_1048576 (by decide)).1
        have r_7 := q_r.mono (c := 0) (d := 1048575) (q_remP e35 z32 rl_1048576 (by decide)).2.1 (by decide)
        have el35 : v35.toInt = q_lo (σ bw (wq0.toInt - 1).toNat) := by rw [q_lo_int fl32]; exact (by have o0 := (q_remP e35 z32 rl_1048576 (by decide)).2.2; have o1 := (show v35.toInt = v32.toInt % 1048576 from (by have q := (q_remP e35 z32 rl_1048576 (by decide)).1; rw [tl_1048576] at q; exact q)); have o2 := (q_remL e35 z32 rl_1048576 (by decide)); have o3 := z32; have o4 := r_7; have l5 := tl_1048576; unfold q_r at o3 o4; omega)
        have rl35 : q_r v35 0 259 := ⟨by rw [el35]; exact lo1, by rw [el35]; omega⟩
        rw [← el35] at lo4
        refine q_istore_n (pc := 36) [(2, .int v35), (0, .ref a0), (1, .int x1)] hG dX12_lands_36 (by decide) rfl ?_
        refine q_aload_n (pc := 37) hG dX12_lands_37 1 rfl ?_
        refine q_getV (pc := 38) (v := .ref bs) hG fl_X12_23 dX12_lands_38 tA0 (hS0.same tA0 rfl hbs) ?_
        refine q_iload_n (pc := 41) hG dX12_lands_41 0 rfl ?_
        refine q_ldc (pc := 42) hG w916 dX12_lands_42 ?_
        refine q_aload_n (pc := 44) hG dX12_lands_44 1 rfl ?_
        refine q_getV (pc := 45) (v := .ref bs) hG fl_X12_23 dX12_lands_45 tA0 (hS0.same tA0 rfl hbs) ?_
        refine q_iload_n (pc := 48) hG dX12_lands_48 0 rfl ?_
        refine q_iald (pc := 49) hG dX12_lands_49 hS0.1 ai_150 Tbs (q_ix rl35 (by decide)) (fun v49 f49 g49 => ?_)
        replace hF := fx_I hF f49 rfl
        have e49b : lz = v49 := by cases (f49).symm.trans lo4; rfl
        rw [e49b] at lo4 lo5 lo6
        have rl49 : q_r v49 0 13631487 := ⟨lo5, by omega⟩
        have kd49 := q_kd_int lo4
        refine q_ldc (pc := 50) hG w916 dX12_lands_50 ?_
        refine q_idiv (pc := 52) hG dX12_lands_52 (q_nzr rl_1048576 (by decide)) (fun v52 e52 => ?_)
        replace hF := fx_div hF rfl tl_1048576 (q_divP e52 rl49 rl_1048576 (by decide))
        refine q_imul (pc := 53) hG dX12_lands_53 (fun v53 e53 => ?_)
        have r_8 := (⟨by have q1 := q_divP e52 rl49 rl_1048576 (by decide); have q2 := rl49; have q3 := tl_1048576; rw [q3] at q1; unfold q_r at q2; omega, by have q1 := q_divP e52 rl49 rl_1048576 (by decide); have q2 := rl49; have q3 := tl_1048576; rw [q3] at q1; unfold q_r at q2; omega⟩ : q_r v52 0 12)
        replace hF := fx_mul hF tl_1048576 rfl (q_mulN (lo := 0) (hi := 12582912) e53 rl_1048576 r_8 (by decide)).1
        refine q_aload_n (pc := 54) hG dX12_lands_54 1 rfl ?_
        refine q_getV (pc := 55) (v := .int cq) hG fl_X12_150 dX12_lands_55 tA0 (hS0.same tA0 rfl hcq) ?_
        refine q_iadd (pc := 58) hG dX12_lands_58 (fun v58 e58 => ?_)
        have r_9 := (q_mulN (lo := 0) (hi := 12582912) e53 rl_1048576 r_8 (by decide)).2
        replace hF := fx_add hF rfl rfl (q_addN (lo := 0) (hi := 12583172) e58 r_9 r_2 (by decide)).1
        have r_10 := (q_addN (lo := 0) (hi := 12583172) e58 r_9 r_2 (by decide)).2
        refine q_iast (pc := 59) hG dX12_lands_59 hS0 ai_150 Tbs (q_ix rl35 (by decide)) r_10 (by decide) rfl (fun s59 u59 w59 => ?_)
        replace hF := fx_P hF u59 rfl rfl
        have m59 : s59 bs v35.toInt.toNat = .int v58 := by rw [u59]; exact q_up_same
        refine q_aload_n (pc := 60) hG dX12_lands_60 1 rfl ?_
        refine q_aload_n (pc := 61) hG dX12_lands_61 1 rfl ?_
        refine q_getV (pc := 62) (v := .int wq0) hG fl_X12_157 dX12_lands_62 tA0 (by rw [u59]; exact (q_keepK tA0 Tbs (by decide)).trans iQ0.1.2.1) ?_
        refine q_iconst (pc := 65) hG dX12_lands_65 ki_1 ?_
        refine q_isub (pc := 66) hG dX12_lands_66 (fun v66 e66 => ?_)
        rw [e66.trans e31.symm]
        refine q_putI (pc := 67) hG fl_X12_157 dX12_lands_67 w59 tA0 ff_10_11 (show q_r v31 0 260 from ⟨(by have o0 := (q_subN (lo := (-1)) (hi := 259) e31 r_1 rl_1 (by decide)).1; have o1 := iQ0.2.1.rng; have o2 := iQ0.2.2; have o3 := t1; have o4 := iT22; have o5 := wp22.1; have o6 := (q_addN (lo := 0) (hi := 12583172) e58 r_9 r_2 (by decide)).1; have o7 := hQ.rng; have o8 := h1w; have o9 := (by have q := (q_mulN (lo := 0) (hi := 12582912) e53 rl_1048576 r_8 (by decide)).1; rw [tl_1048576] at q; exact q); have o10 := (show v52.toInt = v49.toInt / 1048576 from (by have q := q_divP e52 rl49 rl_1048576 (by decide); rw [tl_1048576] at q; exact q)); have o11 := r_2; have o12 := r_3; have o13 := p1.1; have o14 := r_5; have o15 := rl49; have o16 := r_8; have o17 := r_9; have o18 := r_10; have o19 := r_4; have o20 := r_1; have l21 := tl_1; have l22 := tl_1048576; unfold q_r at o11 o12 o13 o14 o15 o16 o17 o18 o19 o20; omega), (by have o0 := (q_subN (lo := (-1)) (hi := 259) e31 r_1 rl_1 (by decide)).1; have o1 := iQ0.2.1.rng; have o2 := iQ0.2.2; have o3 := t1; have o4 := iT22; have o5 := wp22.1; have o6 := (q_addN (lo := 0) (hi := 12583172) e58 r_9 r_2 (by decide)).1; have o7 := hQ.rng; have o8 := h1w; have o9 := (by have q := (q_mulN (lo := 0) (hi := 12582912) e53 rl_1048576 r_8 (by decide)).1; rw [tl_1048576] at q; exact q); have o10 := (show v52.toInt = v49.toInt / 1048576 from (by have q := q_divP e52 rl49 rl_1048576 (by decide); rw [tl_1048576] at q; exact q)); have o11 := r_2; have o12 := r_3; have o13 := p1.1; have o14 := r_5; have o15 := rl49; have o16 := r_8; have o17 := r_9; have o18 := r_10; have o19 := r_4; have o20 := r_1; have l21 := tl_1; have l22 := tl_1048576; unfold q_r at o11 o12 o13 o14 o15 o16 o17 o18 o19 o20; omega)⟩) (by decide) rfl (fun s67 u67 w67 => ?_)
        replace hF := fx_P hF u67 rfl rfl
        have m67 : s67 a0 11 = .int v31 := by rw [u67]; exact q_up_same
        have eb67 : s67 bs = updV (σ0 bs) (q_lo (σ bw (wq0.toInt - 1).toNat)).toNat (.int v58) := by rw [(by rw [u67]; exact q_upK Tbs tA0 (by decide) : s67 bs = s59 bs), u59, ← el35]; exact q_upF
        have nn67 := iQ0.2.1.land (x := v58) wp22.1 hk22 (by rw [← el35, kd49]; exact (by have o0 := hQ.rng; have o1 := h1w; have o2 := iQ0.2.1.rng; have o3 := iQ0.2.2; have o4 := t1; have o5 := iT22; have o6 := wp22.1; have o7 := (q_subN (lo := (-1)) (hi := 259) e31 r_1 rl_1 (by decide)).1; have o8 := (show v52.toInt = v49.toInt / 1048576 from (by have q := q_divP e52 rl49 rl_1048576 (by decide); rw [tl_1048576] at q; exact q)); have o9 := (by have q := (q_mulN (lo := 0) (hi := 12582912) e53 rl_1048576 r_8 (by decide)).1; rw [tl_1048576] at q; exact q); have o10 := (q_addN (lo := 0) (hi := 12583172) e58 r_9 r_2 (by decide)).1; have o11 := r_2; have o12 := r_3; have o13 := p1.1; have o14 := r_5; have o15 := rl49; have o16 := r_8; have o17 := r_9; have o18 := r_10; have o19 := r_4; have o20 := r_1; have l21 := tl_1; have l22 := tl_1048576; unfold q_r at o11 o12 o13 o14 o15 o16 o17 o18 o19 o20; omega))
        have Q67 : q_cn (s67 bs) (σ bw) S0 F cq.toInt v31.toInt K pq.toInt 1 := by
          rw [eb67, (show v31.toInt = wq0.toInt - 1 from (by have o0 := iQ0.2.1.rng; have o1 := iQ0.2.2; have o2 := t1; have o3 := iT22; have o4 := wp22.1; have o5 := (q_subN (lo := (-1)) (hi := 259) e31 r_1 rl_1 (by decide)).1; have o6 := (q_addN (lo := 0) (hi := 12583172) e58 r_9 r_2 (by decide)).1; have o7 := hQ.rng; have o8 := h1w; have o9 := (by have q := (q_mulN (lo := 0) (hi := 12582912) e53 rl_1048576 r_8 (by decide)).1; rw [tl_1048576] at q; exact q); have o10 := (show v52.toInt = v49.toInt / 1048576 from (by have q := q_divP e52 rl49 rl_1048576 (by decide); rw [tl_1048576] at q; exact q)); have o11 := r_2; have o12 := r_3; have o13 := p1.1; have o14 := r_5; have o15 := rl49; have o16 := r_8; have o17 := r_9; have o18 := r_10; have o19 := r_4; have o20 := r_1; have l21 := tl_1; have l22 := tl_1048576; unfold q_r at o11 o12 o13 o14 o15 o16 o17 o18 o19 o20; omega))]
          exact nn67.1
        refine q_goto (pc := 70) 0 hG dX12_lands_70 rfl ?_
        refine q_lv [1, 2] rfl ?_
        have r_11 := (show q_r v31 0 260 from ⟨by have q := Q67.rng; omega, by have q := Q67.rng; omega⟩)
        exact ih0 s67 cq v31 pq w67 ⟨⟨(w67.same tA0 rfl hcq), m67, (w67.same tA0 rfl hpq)⟩, Q67, (by have o0 := (q_subN (lo := (-1)) (hi := 259) e31 r_1 rl_1 (by decide)).1; have o1 := Q67.rng; have o2 := nn67.2; have o3 := hQ.rng; have o4 := h1w; have o5 := iQ0.2.1.rng; have o6 := iQ0.2.2; have o7 := t1; have o8 := iT22; have o9 := wp22.1; have o10 := (q_addN (lo := 0) (hi := 12583172) e58 r_9 r_2 (by decide)).1; have o11 := (by have q := (q_mulN (lo := 0) (hi := 12582912) e53 rl_1048576 r_8 (by decide)).1; rw [tl_1048576] at q; exact q); have o12 := (show v52.toInt = v49.toInt / 1048576 from (by have q := q_divP e52 rl49 rl_1048576 (by decide); rw [tl_1048576] at q; exact q)); have o13 := r_2; have o14 := r_3; have o15 := p1.1; have o16 := r_11; have o17 := rl49; have o18 := r_8; have o19 := r_9; have o20 := r_10; have o21 := r_4; have o22 := r_1; have l23 := tl_1; have l24 := tl_1048576; unfold q_r at o13 o14 o15 o16 o17 o18 o19 o20 o21 o22; omega)⟩ hF (by have o0 := iQ0.2.1.rng; have o1 := iQ0.2.2; have o2 := t1; have o3 := iT22; have o4 := wp22.1; have o5 := (q_subN (lo := (-1)) (hi := 259) e31 r_1 rl_1 (by decide)).1; have o6 := (q_addN (lo := 0) (hi := 12583172) e58 r_9 r_2 (by decide)).1; have o7 := Q67.rng; have o8 := nn67.2; have o9 := hQ.rng; have o10 := h1w; have o11 := (by have q := (q_mulN (lo := 0) (hi := 12582912) e53 rl_1048576 r_8 (by decide)).1; rw [tl_1048576] at q; exact q); have o12 := (show v52.toInt = v49.toInt / 1048576 from (by have q := q_divP e52 rl49 rl_1048576 (by decide); rw [tl_1048576] at q; exact q)); have o13 := r_2; have o14 := r_3; have o15 := p1.1; have o16 := r_11; have o17 := rl49; have o18 := r_8; have o19 := r_9; have o20 := r_10; have o21 := r_4; have o22 := r_1; have l23 := tl_1; have l24 := tl_1048576; have o25 := hm0; unfold q_r at o13 o14 o15 o16 o17 o18 o19 o20 o21 o22; omega)
      refine q_icmp_eq (pc := 6) hG 22 dX12_lands_6 rfl ?_ ?_
      · intro c6
        replace hF := fx_eq1 hF rfl tl_11 c6
        refine q_lv [0, 1] rfl ?_
        have r_12 := (show q_r cq 0 260 from ⟨by have q := hQ.rng; omega, by have q := hQ.rng; omega⟩)
        have r_13 := (show q_r pq 0 260 from ⟨by have q := hQ.rng; omega, by have q := hQ.rng; omega⟩)
        have r_14 := q_req rl_11 c6
        have r_15 := (show q_r wq 0 260 from ⟨by have q := hQ.rng; omega, by have q := hQ.rng; omega⟩)
        exact J22 (by have o0 := iQ0.2.1.rng; have o1 := iQ0.2.2; have o2 := t1; have o3 := c6; have o4 := hQ.rng; have o5 := h1w; have o6 := r_12; have o7 := r_13; have o8 := r_14; have o9 := r_15; have o10 := r_1; have l11 := tl_11; unfold q_r at o6 o7 o8 o9 o10; omega) hF
      intro c6
      replace hF := fx_eq2 hF rfl tl_11 c6
      refine q_iload_n (pc := 9) hG dX12_lands_9 1 rfl ?_
      refine q_if_eq (pc := 10) hG 73 dX12_lands_10 rfl ?_ ?_
      · intro c10
        replace hF := fx_eq1 hF rfl rfl c10
        have r_16 := (show q_r cq 0 260 from ⟨by have q := hQ.rng; omega, by have q := hQ.rng; omega⟩)
        have r_17 := (show q_r pq 0 260 from ⟨by have q := hQ.rng; omega, by have q := hQ.rng; omega⟩)
        have r_18 := (show q_r wq 0 260 from ⟨by have q := hQ.rng; omega, by have q := hQ.rng; omega⟩)
        have r_19 := q_zeq c10
        exact q_vrt hG hE dX12_lands_73 ⟨hS0, (fx_end hF hF0), q_x.mk ⟨wq0, iQ0.1.2.1, iQ0.2.1, iQ0.2.2, fun q => (by have o0 := iQ0.2.1.rng; have o1 := iQ0.2.2; have o2 := t1; have o3 := c6; have o4 := c10; have o5 := hQ.rng; have o6 := h1w; have o7 := r_16; have o8 := r_17; have o9 := p1.1; have o10 := r_18; have o11 := r_1; have o12 := r_19; have l13 := tl_11; have o14 := q; unfold q_r at o7 o8 o9 o10 o11 o12; omega)⟩⟩
      intro c10
      replace hF := fx_eq2 hF rfl rfl c10
      refine q_aload_n (pc := 13) hG dX12_lands_13 0 rfl ?_
      refine q_pV (pc := 14) [] [] hG (c_X12_waitTop τ σ0 a0 hS0.1 tA0 bw (hS0.same tA0 rfl hbw) Tbw wq0 iQ0.1.2.1 r_1 (show q_cn (σ0 bs) (σ0 bw) S0 F cq.toInt wq0.toInt K pq.toInt 1 from (by rw [((funext fun j => hS0.2.arr Tbw (by decide) rfl) : σ0 bw = σ bw)]; exact iQ0.2.1)).1.wn) my_X12_waitTop mv_X12_waitTop w932 dX12_lands_14 tA0 (by decide) rfl rfl (Nat.le_of_ble_eq_true rfl) (by decide) (fun v14 p14 => ?_)
      replace hF := fx_E hF p14.2.1
      have t14 : v14.toInt = q_wt (σ bw) wq0.toInt := (by have q := p14.2.2; rw [((funext fun j => hS0.2.arr Tbw (by decide) rfl) : σ0 bw = σ bw)] at q; exact q)
      refine q_bipush (pc := 17) hG dX12_lands_17 kb_12 ?_
      refine q_icmp_ne (pc := 19) hG 73 dX12_lands_19 rfl ?_ ?_
      · intro c19
        replace hF := fx_eq2 hF rfl tl_12 c19
        have r_20 := (show q_r cq 0 260 from ⟨by have q := hQ.rng; omega, by have q := hQ.rng; omega⟩)
        have r_21 := (show q_r pq 0 260 from ⟨by have q := hQ.rng; omega, by have q := hQ.rng; omega⟩)
        have r_22 := (show q_r wq 0 260 from ⟨by have q := hQ.rng; omega, by have q := hQ.rng; omega⟩)
        have r_23 := q_neL (c := 1) rA1 c10 (by decide)
        exact q_vrt hG hE dX12_lands_73 ⟨hS0, (fx_end hF hF0), q_x.mk ⟨wq0, iQ0.1.2.1, iQ0.2.1, iQ0.2.2, fun q => (by have o0 := iQ0.2.1.rng; have o1 := iQ0.2.2; have o2 := t1; have o3 := c6; have o4 := c10; have o5 := t14; have o6 := c19; have o7 := hQ.rng; have o8 := h1w; have o9 := r_20; have o10 := r_21; have o11 := p1.1; have o12 := p14.1; have o13 := r_22; have o14 := r_1; have o15 := r_23; have l16 := tl_11; have l17 := tl_12; have o18 := q; unfold q_r at o9 o10 o11 o12 o13 o14 o15; omega)⟩⟩
      intro c19
      replace hF := fx_eq1 hF rfl tl_12 c19
      refine q_lv [0, 1] rfl ?_
      have r_24 := (show q_r cq 0 260 from ⟨by have q := hQ.rng; omega, by have q := hQ.rng; omega⟩)
      have r_25 := (show q_r pq 0 260 from ⟨by have q := hQ.rng; omega, by have q := hQ.rng; omega⟩)
      have r_26 := q_req rl_12 c19
      have r_27 := (show q_r wq 0 260 from ⟨by have q := hQ.rng; omega, by have q := hQ.rng; omega⟩)
      exact J22 (by have o0 := iQ0.2.1.rng; have o1 := iQ0.2.2; have o2 := t1; have o3 := c6; have o4 := t14; have o5 := c19; have o6 := hQ.rng; have o7 := h1w; have o8 := r_24; have o9 := r_25; have o10 := p1.1; have o11 := r_26; have o12 := r_27; have o13 := r_1; have l14 := tl_11; have l15 := tl_12; unfold q_r at o8 o9 o10 o11 o12 o13; omega) hF
  refine q_lv [0, 1] rfl ?_
  have r_28 := (show q_r cq 0 260 from ⟨by have q := hQ.rng; omega, by have q := hQ.rng; omega⟩)
  have r_29 := (show q_r pq 0 260 from ⟨by have q := hQ.rng; omega, by have q := hQ.rng; omega⟩)
  have r_30 := (show q_r wq 0 260 from ⟨by have q := hQ.rng; omega, by have q := hQ.rng; omega⟩)
  exact J0 (wq.toInt.toNat + 1) σ cq wq pq hS0 ⟨⟨hcq, hwq, hpq⟩, hQ, (by have o0 := hQ.rng; have o1 := h1w; have o2 := r_28; have o3 := r_29; have o4 := r_30; unfold q_r at o2 o3 o4; omega)⟩ hF (Nat.lt_succ_self _)
theorem dX12_jumps_0 : decode cX12_jumps 0 = .ok (.aload_n 0, 1) := by decide +kernel
theorem dX12_jumps_1 : decode cX12_jumps 1 = .ok (.getfield 26, 3) := by decide +kernel
theorem dX12_jumps_4 : decode cX12_jumps 4 = .ok (.aload_n 0, 1) := by decide +kernel
theorem dX12_jumps_5 : decode cX12_jumps 5 = .ok (.getfield 157, 3) := by decide +kernel
theorem dX12_jumps_8 : decode cX12_jumps 8 = .ok (.ldc 153, 2) := by decide +kernel
theorem dX12_jumps_10 : decode cX12_jumps 10 = .ok (.iload_n 1, 1) := by decide +kernel
theorem dX12_jumps_11 : decode cX12_jumps 11 = .ok (.imul, 1) := by decide +kernel
theorem dX12_jumps_12 : decode cX12_jumps 12 = .ok (.aload_n 0, 1) := by decide +kernel
theorem dX12_jumps_13 : decode cX12_jumps 13 = .ok (.getfield 150, 3) := by decide +kernel
theorem dX12_jumps_16 : decode cX12_jumps 16 = .ok (.iadd, 1) := by decide +kernel
theorem dX12_jumps_17 : decode cX12_jumps 17 = .ok (.iastore, 1) := by decide +kernel
theorem dX12_jumps_18 : decode cX12_jumps 18 = .ok (.aload_n 0, 1) := by decide +kernel
theorem dX12_jumps_19 : decode cX12_jumps 19 = .ok (.aload_n 0, 1) := by decide +kernel
theorem dX12_jumps_20 : decode cX12_jumps 20 = .ok (.getfield 157, 3) := by decide +kernel
theorem dX12_jumps_23 : decode cX12_jumps 23 = .ok (.iconst 1, 1) := by decide +kernel
theorem dX12_jumps_24 : decode cX12_jumps 24 = .ok (.iadd, 1) := by decide +kernel
theorem dX12_jumps_25 : decode cX12_jumps 25 = .ok (.putfield 157, 3) := by decide +kernel
theorem dX12_jumps_28 : decode cX12_jumps 28 = .ok (.aload_n 0, 1) := by decide +kernel
theorem dX12_jumps_29 : decode cX12_jumps 29 = .ok (.iload_n 1, 1) := by decide +kernel
theorem dX12_jumps_30 : decode cX12_jumps 30 = .ok (.iconst 0, 1) := by decide +kernel
theorem dX12_jumps_31 : decode cX12_jumps 31 = .ok (.invokevirtual 163, 3) := by decide +kernel
theorem dX12_jumps_34 : decode cX12_jumps 34 = .ok (.aload_n 0, 1) := by decide +kernel
theorem dX12_jumps_35 : decode cX12_jumps 35 = .ok (.aload_n 0, 1) := by decide +kernel
theorem dX12_jumps_36 : decode cX12_jumps 36 = .ok (.getfield 126, 3) := by decide +kernel
theorem dX12_jumps_39 : decode cX12_jumps 39 = .ok (.iconst 1, 1) := by decide +kernel
theorem dX12_jumps_40 : decode cX12_jumps 40 = .ok (.iadd, 1) := by decide +kernel
theorem dX12_jumps_41 : decode cX12_jumps 41 = .ok (.putfield 126, 3) := by decide +kernel
theorem dX12_jumps_44 : decode cX12_jumps 44 = .ok (.return_, 1) := by decide +kernel
def md_X12_jumps : List (Nat × Nat) := [(10, 5), (10, 10), (10, 11), (150, 0), (151, 0)]
set_option maxRecDepth 100000 in
set_option maxHeartbeats 4000000 in
theorem c_X12_jumps {l : Launch} {D : q_D} (τ : q_T) (σ : q_V) (a0 : Nat) (x1 : Int32) (hI : q_I τ σ) (tA0 : τ a0 = some (10, 1)) (rA1 : q_r x1 11 12) (bs bw : Nat) (hbs : σ a0 15 = .ref bs) (hbw : σ a0 16 = .ref bw) (Tbs : τ bs = some (150, 260)) (Tbw : τ bw = some (151, 260)) (cq wq pq : Int32) (hcq : σ a0 10 = .int cq) (hwq : σ a0 11 = .int wq) (hpq : σ a0 5 = .int pq) (S0 : Nat → Value) (F : Nat) (hQ : q_cn (σ bs) (σ bw) S0 F cq.toInt wq.toInt 0 pq.toInt 1) (h1w : 1 ≤ wq.toInt) (hp9 : pq.toInt ≤ 259) : q_Cv l D yX12_jumps cX12_jumps 2 none 1 22 τ σ [.ref a0, .int x1] (fun σ1 => q_S md_X12_jumps τ σ σ1 ∧ (fx_N σ1 = f_X12_jumps (fx_N σ) a0 x1.toInt) ∧ (q_x (∃ c1 w1 p1 : Int32, (σ1 a0 10 = .int c1 ∧ σ1 a0 11 = .int w1 ∧ σ1 a0 5 = .int p1) ∧ q_cn (σ1 bs) (σ1 bw) S0 F c1.toInt w1.toInt 0 p1.toInt 0 ∧ 1 ≤ w1.toInt ∧ p1.toInt = pq.toInt + 1))) := by
  refine q_metv rfl (Nat.le_of_ble_eq_true rfl) (fun X hG hE => ?_)
  show q_O X 0 0 τ σ 0 [(0, .ref a0), (1, .int x1)] []
  have hS0 : q_S md_X12_jumps τ σ σ := q_S.rf hI
  obtain ⟨Fv, hF⟩ : ∃ z, fx_eq z (f_X12_jumps (fx_N σ) a0 x1.toInt) := ⟨_, fx_rf⟩
  have hF0 := hF
  unfold f_X12_jumps at hF
  replace hF := fx_R hF hbs rfl
  replace hF := fx_R hF hbw rfl
  replace hF := fx_I hF hcq rfl
  replace hF := fx_I hF hwq rfl
  replace hF := fx_I hF hpq rfl
  refine q_aload_n (pc := 0) hG dX12_jumps_0 0 rfl ?_
  refine q_getV (pc := 1) (v := .ref bw) hG fl_X12_26 dX12_jumps_1 tA0 hbw ?_
  refine q_aload_n (pc := 4) hG dX12_jumps_4 0 rfl ?_
  refine q_getV (pc := 5) (v := .int wq) hG fl_X12_157 dX12_jumps_5 tA0 hwq ?_
  refine q_ldc (pc := 8) hG w916 dX12_jumps_8 ?_
  refine q_iload_n (pc := 10) hG dX12_jumps_10 1 rfl ?_
  refine q_imul (pc := 11) hG dX12_jumps_11 (fun v11 e11 => ?_)
  replace hF := fx_mul hF tl_1048576 rfl (q_mulN (lo := 11534336) (hi := 12582912) e11 rl_1048576 rA1 (by decide)).1
  refine q_aload_n (pc := 12) hG dX12_jumps_12 0 rfl ?_
  refine q_getV (pc := 13) (v := .int cq) hG fl_X12_150 dX12_jumps_13 tA0 hcq ?_
  refine q_iadd (pc := 16) hG dX12_jumps_16 (fun v16 e16 => ?_)
  have r_1 := (q_mulN (lo := 11534336) (hi := 12582912) e11 rl_1048576 rA1 (by decide)).2
  have r_2 := (show q_r cq 0 260 from ⟨by have q := hQ.rng; omega, by have q := hQ.rng; omega⟩)
  replace hF := fx_add hF rfl rfl (q_addN (lo := 11534336) (hi := 12583172) e16 r_1 r_2 (by decide)).1
  have r_3 := (show q_r pq 0 260 from ⟨by have q := hQ.rng; omega, by have q := hQ.rng; omega⟩)
  have r_4 := (q_addN (lo := 11534336) (hi := 12583172) e16 r_1 r_2 (by decide)).2
  have r_5 := (show q_r wq 0 260 from ⟨by have q := hQ.rng; omega, by have q := hQ.rng; omega⟩)
  refine q_iast (pc := 17) hG dX12_jumps_17 hS0 ai_151 Tbw (by have o0 := hQ.rng; have o1 := h1w; have o2 := hp9; have o3 := (q_addN (lo := 11534336) (hi := 12583172) e16 r_1 r_2 (by decide)).1; have o4 := (by have q := (q_mulN (lo := 11534336) (hi := 12582912) e11 rl_1048576 rA1 (by decide)).1; rw [tl_1048576] at q; exact q); have o5 := r_2; have o6 := r_3; have o7 := r_1; have o8 := r_4; have o9 := r_5; have o10 := rA1; unfold q_r at o5 o6 o7 o8 o9 o10; omega) r_4 (by decide) rfl (fun s17 u17 w17 => ?_)
  replace hF := fx_P hF u17 rfl rfl
  have m17 : s17 bw wq.toInt.toNat = .int v16 := by rw [u17]; exact q_up_same
  refine q_aload_n (pc := 18) hG dX12_jumps_18 0 rfl ?_
  refine q_aload_n (pc := 19) hG dX12_jumps_19 0 rfl ?_
  refine q_getV (pc := 20) (v := .int wq) hG fl_X12_157 dX12_jumps_20 tA0 (by rw [u17]; exact (q_keepK tA0 Tbw (by decide)).trans hwq) ?_
  refine q_iconst (pc := 23) hG dX12_jumps_23 ki_1 ?_
  refine q_iadd (pc := 24) hG dX12_jumps_24 (fun v24 e24 => ?_)
  replace hF := fx_add hF rfl tl_1 (q_addN (lo := 1) (hi := 261) e24 r_5 rl_1 (by decide)).1
  have r_6 := (q_addN (lo := 1) (hi := 261) e24 r_5 rl_1 (by decide)).2
  refine q_putI (pc := 25) hG fl_X12_157 dX12_jumps_25 w17 tA0 ff_10_11 (show q_r v24 0 260 from ⟨(by have o0 := (q_addN (lo := 1) (hi := 261) e24 r_5 rl_1 (by decide)).1; have o1 := hQ.rng; have o2 := h1w; have o3 := hp9; have o4 := (q_addN (lo := 11534336) (hi := 12583172) e16 r_1 r_2 (by decide)).1; have o5 := (by have q := (q_mulN (lo := 11534336) (hi := 12582912) e11 rl_1048576 rA1 (by decide)).1; rw [tl_1048576] at q; exact q); have o6 := r_2; have o7 := r_3; have o8 := r_1; have o9 := r_4; have o10 := r_6; have o11 := r_5; have o12 := rA1; have l13 := tl_1; unfold q_r at o6 o7 o8 o9 o10 o11 o12; omega), (by have o0 := (q_addN (lo := 1) (hi := 261) e24 r_5 rl_1 (by decide)).1; have o1 := hQ.rng; have o2 := h1w; have o3 := hp9; have o4 := (q_addN (lo := 11534336) (hi := 12583172) e16 r_1 r_2 (by decide)).1; have o5 := (by have q := (q_mulN (lo := 11534336) (hi := 12582912) e11 rl_1048576 rA1 (by decide)).1; rw [tl_1048576] at q; exact q); have o6 := r_2; have o7 := r_3; have o8 := r_1; have o9 := r_4; have o10 := r_6; have o11 := r_5; have o12 := rA1; have l13 := tl_1; unfold q_r at o6 o7 o8 o9 o10 o11 o12; omega)⟩) (by decide) rfl (fun s25 u25 w25 => ?_)
  replace hF := fx_P hF u25 rfl rfl
  have m25 : s25 a0 11 = .int v24 := by rw [u25]; exact q_up_same
  refine q_aload_n (pc := 28) hG dX12_jumps_28 0 rfl ?_
  refine q_iload_n (pc := 29) hG dX12_jumps_29 1 rfl ?_
  refine q_iconst (pc := 30) hG dX12_jumps_30 ki_0 ?_
  refine q_cVv (pc := 31) [.int x1, .int 0] [] hG (c_X12_notes τ s25 a0 x1 0 w25.1 tA0 (q_r.mono rA1 (by decide)) (q_r.mono rl_0 (by decide)) bs (w25.same tA0 rfl hbs) Tbs cq (by rw [u25]; exact (q_up_else (Or.inr (by decide))).trans (by rw [u17]; exact (q_keepK tA0 Tbw (by decide)).trans hcq)) (show q_r cq 0 259 from ⟨(by have o0 := hQ.rng; have o1 := h1w; have o2 := hp9; have o3 := (q_addN (lo := 11534336) (hi := 12583172) e16 r_1 r_2 (by decide)).1; have o4 := (q_addN (lo := 1) (hi := 261) e24 r_5 rl_1 (by decide)).1; have o5 := (by have q := (q_mulN (lo := 11534336) (hi := 12582912) e11 rl_1048576 rA1 (by decide)).1; rw [tl_1048576] at q; exact q); have o6 := r_2; have o7 := r_3; have o8 := r_1; have o9 := r_4; have o10 := r_6; have o11 := r_5; have o12 := rA1; have l13 := tl_1; unfold q_r at o6 o7 o8 o9 o10 o11 o12; omega), (by have o0 := hQ.rng; have o1 := h1w; have o2 := hp9; have o3 := (q_addN (lo := 11534336) (hi := 12583172) e16 r_1 r_2 (by decide)).1; have o4 := (q_addN (lo := 1) (hi := 261) e24 r_5 rl_1 (by decide)).1; have o5 := (by have q := (q_mulN (lo := 11534336) (hi := 12582912) e11 rl_1048576 rA1 (by decide)).1; rw [tl_1048576] at q; exact q); have o6 := r_2; have o7 := r_3; have o8 := r_1; have o9 := r_4; have o10 := r_6; have o11 := r_5; have o12 := rA1; have l13 := tl_1; unfold q_r at o6 o7 o8 o9 o10 o11 o12; omega)⟩)) my_X12_notes mv_X12_notes w920 dX12_jumps_31 tA0 (by decide) rfl rfl (Nat.le_of_ble_eq_true rfl) (by decide) (fun s31 p31 => ?_)
  have w31 := w25.trans p31.1 rfl
  have fq31 := p31.2.1
  rewrite [tl_0] at fq31
  replace hF := fx_S hF fq31
  obtain ⟨xn31, c1_31, en31, fx31, fc1_31, gc1_31⟩ := p31.2.2
  replace hF := fx_I hF fc1_31 rfl
  refine q_aload_n (pc := 34) hG dX12_jumps_34 0 rfl ?_
  refine q_aload_n (pc := 35) hG dX12_jumps_35 0 rfl ?_
  refine q_getV (pc := 36) (v := .int pq) hG fl_X12_126 dX12_jumps_36 tA0 (p31.1.same tA0 rfl (by rw [u25]; exact (q_up_else (Or.inr (by decide))).trans (by rw [u17]; exact (q_keepK tA0 Tbw (by decide)).trans hpq))) ?_
  refine q_iconst (pc := 39) hG dX12_jumps_39 ki_1 ?_
  refine q_iadd (pc := 40) hG dX12_jumps_40 (fun v40 e40 => ?_)
  replace hF := fx_add hF rfl tl_1 (q_addN (lo := 1) (hi := 261) e40 r_3 rl_1 (by decide)).1
  have r_7 := (show q_r c1_31 1 260 from ⟨by have q := gc1_31; have q2 := (show q_r cq 0 259 from ⟨(by have o0 := hQ.rng; have o1 := h1w; have o2 := hp9; have o3 := (q_addN (lo := 11534336) (hi := 12583172) e16 r_1 r_2 (by decide)).1; have o4 := (q_addN (lo := 1) (hi := 261) e24 r_5 rl_1 (by decide)).1; have o5 := (by have q := (q_mulN (lo := 11534336) (hi := 12582912) e11 rl_1048576 rA1 (by decide)).1; rw [tl_1048576] at q; exact q); have o6 := r_2; have o7 := r_3; have o8 := r_1; have o9 := r_4; have o10 := r_6; have o11 := r_5; have o12 := rA1; have l13 := tl_1; unfold q_r at o6 o7 o8 o9 o10 o11 o12; omega), (by have o0 := hQ.rng; have o1 := h1w; have o2 := hp9; have o3 := (q_addN (lo := 11534336) (hi := 12583172) e16 r_1 r_2 (by decide)).1; have o4 := (q_addN (lo := 1) (hi := 261) e24 r_5 rl_1 (by decide)).1; have o5 := (by have q := (q_mulN (lo := 11534336) (hi := 12582912) e11 rl_1048576 rA1 (by decide)).1; rw [tl_1048576] at q; exact q); have o6 := r_2; have o7 := r_3; have o8 := r_1; have o9 := r_4; have o10 := r_6; have o11 := r_5; have o12 := rA1; have l13 := tl_1; unfold q_r at o6 o7 o8 o9 o10 o11 o12; omega)⟩); unfold q_r at q2; omega, by have q := gc1_31; have q2 := (show q_r cq 0 259 from ⟨(by have o0 := hQ.rng; have o1 := h1w; have o2 := hp9; have o3 := (q_addN (lo := 11534336) (hi := 12583172) e16 r_1 r_2 (by decide)).1; have o4 := (q_addN (lo := 1) (hi := 261) e24 r_5 rl_1 (by decide)).1; have o5 := (by have q := (q_mulN (lo := 11534336) (hi := 12582912) e11 rl_1048576 rA1 (by decide)).1; rw [tl_1048576] at q; exact q); have o6 := r_2; have o7 := r_3; have o8 := r_1; have o9 := r_4; have o10 := r_6; have o11 := r_5; have o12 := rA1; have l13 := tl_1; unfold q_r at o6 o7 o8 o9 o10 o11 o12; omega), (by have o0 := hQ.rng; have o1 := h1w; have o2 := hp9; have o3 := (q_addN (lo := 11534336) (hi := 12583172) e16 r_1 r_2 (by decide)).1; have o4 := (q_addN (lo := 1) (hi := 261) e24 r_5 rl_1 (by decide)).1; have o5 := (by have q := (q_mulN (lo := 11534336) (hi := 12582912) e11 rl_1048576 rA1 (by decide)).1; rw [tl_1048576] at q; exact q); have o6 := r_2; have o7 := r_3; have o8 := r_1; have o9 := r_4; have o10 := r_6; have o11 := r_5; have o12 := rA1; have l13 := tl_1; unfold q_r at o6 o7 o8 o9 o10 o11 o12; omega)⟩); unfold q_r at q2; omega⟩)
  have r_8 := (q_addN (lo := 1) (hi := 261) e40 r_3 rl_1 (by decide)).2
  refine q_putI (pc := 41) hG fl_X12_126 dX12_jumps_41 w31 tA0 ff_10_5 (show q_r v40 0 260 from ⟨(by have o0 := (q_addN (lo := 1) (hi := 261) e40 r_3 rl_1 (by decide)).1; have o1 := hQ.rng; have o2 := h1w; have o3 := hp9; have o4 := (q_addN (lo := 11534336) (hi := 12583172) e16 r_1 r_2 (by decide)).1; have o5 := (q_addN (lo := 1) (hi := 261) e24 r_5 rl_1 (by decide)).1; have o6 := gc1_31; have o7 := (by have q := (q_mulN (lo := 11534336) (hi := 12582912) e11 rl_1048576 rA1 (by decide)).1; rw [tl_1048576] at q; exact q); have o8 := fx31; have o9 := r_7; have o10 := r_2; have o11 := r_3; have o12 := r_1; have o13 := r_4; have o14 := r_6; have o15 := r_8; have o16 := r_5; have o17 := rA1; have l18 := tl_0; have l19 := tl_1; unfold q_r at o9 o10 o11 o12 o13 o14 o15 o16 o17; omega), (by have o0 := (q_addN (lo := 1) (hi := 261) e40 r_3 rl_1 (by decide)).1; have o1 := hQ.rng; have o2 := h1w; have o3 := hp9; have o4 := (q_addN (lo := 11534336) (hi := 12583172) e16 r_1 r_2 (by decide)).1; have o5 := (q_addN (lo := 1) (hi := 261) e24 r_5 rl_1 (by decide)).1; have o6 := gc1_31; have o7 := (by have q := (q_mulN (lo := 11534336) (hi := 12582912) e11 rl_1048576 rA1 (by decide)).1; rw [tl_1048576] at q; exact q); have o8 := fx31; have o9 := r_7; have o10 := r_2; have o11 := r_3; have o12 := r_1; have o13 := r_4; have o14 := r_6; have o15 := r_8; have o16 := r_5; have o17 := rA1; have l18 := tl_0; have l19 := tl_1; unfold q_r at o9 o10 o11 o12 o13 o14 o15 o16 o17; omega)⟩) (by decide) rfl (fun s41 u41 w41 => ?_)
  replace hF := fx_P hF u41 rfl rfl
  have m41 : s41 a0 5 = .int v40 := by rw [u41]; exact q_up_same
  have eb41 : s41 bs = updV (σ bs) cq.toInt.toNat (.int xn31) := by rw [(by rw [u41]; exact q_upK Tbs tA0 (by decide) : s41 bs = s31 bs), en31, ((by rw [u25]; exact q_upK Tbs tA0 (by decide) : s25 bs = s17 bs).trans (by rw [u17]; exact q_upK Tbs Tbw (by decide) : s17 bs = σ bs))]
  have ew41 : s41 bw = updV (σ bw) wq.toInt.toNat (.int v16) := by rw [((by rw [u41]; exact q_upK Tbw tA0 (by decide) : s41 bw = s31 bw).trans (((funext fun j => p31.1.2.arr Tbw (by decide) rfl) : s31 bw = s25 bw).trans (by rw [u25]; exact q_upK Tbw tA0 (by decide) : s25 bw = s17 bw))), u17]; exact q_upF
  have Q41 : q_cn (s41 bs) (s41 bw) S0 F c1_31.toInt v24.toInt 0 v40.toInt 0 := by
    rw [eb41, ew41, gc1_31, (show v24.toInt = wq.toInt + 1 from (by have o0 := hQ.rng; have o1 := h1w; have o2 := hp9; have o3 := (q_addN (lo := 11534336) (hi := 12583172) e16 r_1 r_2 (by decide)).1; have o4 := (q_addN (lo := 1) (hi := 261) e24 r_5 rl_1 (by decide)).1; have o5 := gc1_31; have o6 := (q_addN (lo := 1) (hi := 261) e40 r_3 rl_1 (by decide)).1; have o7 := (by have q := (q_mulN (lo := 11534336) (hi := 12582912) e11 rl_1048576 rA1 (by decide)).1; rw [tl_1048576] at q; exact q); have o8 := fx31; have o9 := r_7; have o10 := r_2; have o11 := r_3; have o12 := r_1; have o13 := r_4; have o14 := r_6; have o15 := r_8; have o16 := r_5; have o17 := rA1; have l18 := tl_0; have l19 := tl_1; unfold q_r at o9 o10 o11 o12 o13 o14 o15 o16 o17; omega)), (show v40.toInt = pq.toInt + 1 from (by have o0 := hQ.rng; have o1 := h1w; have o2 := hp9; have o3 := (q_addN (lo := 11534336) (hi := 12583172) e16 r_1 r_2 (by decide)).1; have o4 := (q_addN (lo := 1) (hi := 261) e24 r_5 rl_1 (by decide)).1; have o5 := gc1_31; have o6 := (q_addN (lo := 1) (hi := 261) e40 r_3 rl_1 (by decide)).1; have o7 := (by have q := (q_mulN (lo := 11534336) (hi := 12582912) e11 rl_1048576 rA1 (by decide)).1; rw [tl_1048576] at q; exact q); have o8 := fx31; have o9 := r_7; have o10 := r_2; have o11 := r_3; have o12 := r_1; have o13 := r_4; have o14 := r_6; have o15 := r_8; have o16 := r_5; have o17 := rA1; have l18 := tl_0; have l19 := tl_1; unfold q_r at o9 o10 o11 o12 o13 o14 o15 o16 o17; omega))]
    exact hQ.jump (o := x1.toInt) h1w (by have o0 := (by have q := (q_mulN (lo := 11534336) (hi := 12582912) e11 rl_1048576 rA1 (by decide)).1; rw [tl_1048576] at q; exact q); have o1 := (q_addN (lo := 11534336) (hi := 12583172) e16 r_1 r_2 (by decide)).1; have o2 := gc1_31; have o3 := fx31; have o4 := hQ.rng; have o5 := h1w; have o6 := hp9; have o7 := (q_addN (lo := 1) (hi := 261) e24 r_5 rl_1 (by decide)).1; have o8 := (q_addN (lo := 1) (hi := 261) e40 r_3 rl_1 (by decide)).1; have o9 := r_7; have o10 := r_2; have o11 := r_3; have o12 := r_1; have o13 := r_4; have o14 := r_6; have o15 := r_8; have o16 := r_5; have o17 := rA1; have l18 := tl_0; have l19 := tl_1; unfold q_r at o9 o10 o11 o12 o13 o14 o15 o16 o17; omega) (by have o0 := (by have q := (q_mulN (lo := 11534336) (hi := 12582912) e11 rl_1048576 rA1 (by decide)).1; rw [tl_1048576] at q; exact q); have o1 := (q_addN (lo := 11534336) (hi := 12583172) e16 r_1 r_2 (by decide)).1; have o2 := gc1_31; have o3 := fx31; have o4 := hQ.rng; have o5 := h1w; have o6 := hp9; have o7 := (q_addN (lo := 1) (hi := 261) e24 r_5 rl_1 (by decide)).1; have o8 := (q_addN (lo := 1) (hi := 261) e40 r_3 rl_1 (by decide)).1; have o9 := r_7; have o10 := r_2; have o11 := r_3; have o12 := r_1; have o13 := r_4; have o14 := r_6; have o15 := r_8; have o16 := r_5; have o17 := rA1; have l18 := tl_0; have l19 := tl_1; unfold q_r at o9 o10 o11 o12 o13 o14 o15 o16 o17; omega) (by have o0 := hQ.rng; have o1 := h1w; have o2 := hp9; have o3 := (by have q := (q_mulN (lo := 11534336) (hi := 12582912) e11 rl_1048576 rA1 (by decide)).1; rw [tl_1048576] at q; exact q); have o4 := (q_addN (lo := 11534336) (hi := 12583172) e16 r_1 r_2 (by decide)).1; have o5 := (q_addN (lo := 1) (hi := 261) e24 r_5 rl_1 (by decide)).1; have o6 := gc1_31; have o7 := fx31; have o8 := (q_addN (lo := 1) (hi := 261) e40 r_3 rl_1 (by decide)).1; have o9 := r_7; have o10 := r_2; have o11 := r_3; have o12 := r_1; have o13 := r_4; have o14 := r_6; have o15 := r_8; have o16 := r_5; have o17 := rA1; have l18 := tl_0; have l19 := tl_1; unfold q_r at o9 o10 o11 o12 o13 o14 o15 o16 o17; omega) (by have o0 := hQ.rng; have o1 := h1w; have o2 := hp9; have o3 := (q_addN (lo := 11534336) (hi := 12583172) e16 r_1 r_2 (by decide)).1; have o4 := (q_addN (lo := 1) (hi := 261) e24 r_5 rl_1 (by decide)).1; have o5 := gc1_31; have o6 := (q_addN (lo := 1) (hi := 261) e40 r_3 rl_1 (by decide)).1; have o7 := (by have q := (q_mulN (lo := 11534336) (hi := 12582912) e11 rl_1048576 rA1 (by decide)).1; rw [tl_1048576] at q; exact q); have o8 := fx31; have o9 := r_7; have o10 := r_2; have o11 := r_3; have o12 := r_1; have o13 := r_4; have o14 := r_6; have o15 := r_8; have o16 := r_5; have o17 := rA1; have l18 := tl_0; have l19 := tl_1; unfold q_r at o9 o10 o11 o12 o13 o14 o15 o16 o17; omega)
  have r_9 := (show q_r v24 0 260 from ⟨by have q := Q41.rng; omega, by have q := Q41.rng; omega⟩)
  have r_10 := (show q_r v40 0 260 from ⟨by have q := Q41.rng; omega, by have q := Q41.rng; omega⟩)
  exact q_vrt hG hE dX12_jumps_44 ⟨w41, (fx_end hF hF0), q_x.mk ⟨c1_31, v24, v40, ⟨(by rw [u41]; exact (q_up_else (Or.inr (by decide))).trans fc1_31), (by rw [u41]; exact (q_up_else (Or.inr (by decide))).trans (p31.1.same tA0 rfl m25)), m41⟩, Q41, (by have o0 := hQ.rng; have o1 := h1w; have o2 := hp9; have o3 := (q_addN (lo := 11534336) (hi := 12583172) e16 r_1 r_2 (by decide)).1; have o4 := (q_addN (lo := 1) (hi := 261) e24 r_5 rl_1 (by decide)).1; have o5 := gc1_31; have o6 := (q_addN (lo := 1) (hi := 261) e40 r_3 rl_1 (by decide)).1; have o7 := Q41.rng; have o8 := (by have q := (q_mulN (lo := 11534336) (hi := 12582912) e11 rl_1048576 rA1 (by decide)).1; rw [tl_1048576] at q; exact q); have o9 := fx31; have o10 := r_7; have o11 := r_2; have o12 := r_3; have o13 := r_1; have o14 := r_4; have o15 := r_9; have o16 := r_10; have o17 := r_5; have o18 := rA1; have l19 := tl_0; have l20 := tl_1; unfold q_r at o10 o11 o12 o13 o14 o15 o16 o17 o18; omega), (by have o0 := hQ.rng; have o1 := h1w; have o2 := hp9; have o3 := (q_addN (lo := 11534336) (hi := 12583172) e16 r_1 r_2 (by decide)).1; have o4 := (q_addN (lo := 1) (hi := 261) e24 r_5 rl_1 (by decide)).1; have o5 := gc1_31; have o6 := (q_addN (lo := 1) (hi := 261) e40 r_3 rl_1 (by decide)).1; have o7 := Q41.rng; have o8 := (by have q := (q_mulN (lo := 11534336) (hi := 12582912) e11 rl_1048576 rA1 (by decide)).1; rw [tl_1048576] at q; exact q); have o9 := fx31; have o10 := r_7; have o11 := r_2; have o12 := r_3; have o13 := r_1; have o14 := r_4; have o15 := r_9; have o16 := r_10; have o17 := r_5; have o18 := rA1; have l19 := tl_0; have l20 := tl_1; unfold q_r at o10 o11 o12 o13 o14 o15 o16 o17 o18; omega)⟩⟩
theorem dX12_readsCompared_0 : decode cX12_readsCompared 0 = .ok (.aload_n 0, 1) := by decide +kernel
theorem dX12_readsCompared_1 : decode cX12_readsCompared 1 = .ok (.invokevirtual 190, 3) := by decide +kernel
theorem dX12_readsCompared_4 : decode cX12_readsCompared 4 = .ok (.ifCond .ne 5, 3) := by decide +kernel
theorem dX12_readsCompared_7 : decode cX12_readsCompared 7 = .ok (.iconst 0, 1) := by decide +kernel
theorem dX12_readsCompared_8 : decode cX12_readsCompared 8 = .ok (.ireturn, 1) := by decide +kernel
theorem dX12_readsCompared_9 : decode cX12_readsCompared 9 = .ok (.aload_n 0, 1) := by decide +kernel
theorem dX12_readsCompared_10 : decode cX12_readsCompared 10 = .ok (.invokevirtual 132, 3) := by decide +kernel
theorem dX12_readsCompared_13 : decode cX12_readsCompared 13 = .ok (.bipush 60, 2) := by decide +kernel
theorem dX12_readsCompared_15 : decode cX12_readsCompared 15 = .ok (.if_icmp .ne 8, 3) := by decide +kernel
theorem dX12_readsCompared_18 : decode cX12_readsCompared 18 = .ok (.bipush 7, 2) := by decide +kernel
theorem dX12_readsCompared_20 : decode cX12_readsCompared 20 = .ok (.goto 32, 3) := by decide +kernel
theorem dX12_readsCompared_23 : decode cX12_readsCompared 23 = .ok (.aload_n 0, 1) := by decide +kernel
theorem dX12_readsCompared_24 : decode cX12_readsCompared 24 = .ok (.invokevirtual 132, 3) := by decide +kernel
theorem dX12_readsCompared_27 : decode cX12_readsCompared 27 = .ok (.bipush 62, 2) := by decide +kernel
theorem dX12_readsCompared_29 : decode cX12_readsCompared 29 = .ok (.if_icmp .ne 8, 3) := by decide +kernel
theorem dX12_readsCompared_32 : decode cX12_readsCompared 32 = .ok (.bipush 8, 2) := by decide +kernel
theorem dX12_readsCompared_34 : decode cX12_readsCompared 34 = .ok (.goto 18, 3) := by decide +kernel
theorem dX12_readsCompared_37 : decode cX12_readsCompared 37 = .ok (.aload_n 0, 1) := by decide +kernel
theorem dX12_readsCompared_38 : decode cX12_readsCompared 38 = .ok (.invokevirtual 132, 3) := by decide +kernel
theorem dX12_readsCompared_41 : decode cX12_readsCompared 41 = .ok (.bipush 61, 2) := by decide +kernel
theorem dX12_readsCompared_43 : decode cX12_readsCompared 43 = .ok (.if_icmp .ne 8, 3) := by decide +kernel
theorem dX12_readsCompared_46 : decode cX12_readsCompared 46 = .ok (.bipush 9, 2) := by decide +kernel
theorem dX12_readsCompared_48 : decode cX12_readsCompared 48 = .ok (.goto 4, 3) := by decide +kernel
theorem dX12_readsCompared_51 : decode cX12_readsCompared 51 = .ok (.iconst (-1), 1) := by decide +kernel
theorem dX12_readsCompared_52 : decode cX12_readsCompared 52 = .ok (.istore_n 1, 1) := by decide +kernel
theorem dX12_readsCompared_53 : decode cX12_readsCompared 53 = .ok (.iload_n 1, 1) := by decide +kernel
theorem dX12_readsCompared_54 : decode cX12_readsCompared 54 = .ok (.iconst (-1), 1) := by decide +kernel
theorem dX12_readsCompared_55 : decode cX12_readsCompared 55 = .ok (.if_icmp .ne 13, 3) := by decide +kernel
theorem dX12_readsCompared_58 : decode cX12_readsCompared 58 = .ok (.aload_n 0, 1) := by decide +kernel
theorem dX12_readsCompared_59 : decode cX12_readsCompared 59 = .ok (.iconst 1, 1) := by decide +kernel
theorem dX12_readsCompared_60 : decode cX12_readsCompared 60 = .ok (.aload_n 0, 1) := by decide +kernel
theorem dX12_readsCompared_61 : decode cX12_readsCompared 61 = .ok (.getfield 126, 3) := by decide +kernel
theorem dX12_readsCompared_64 : decode cX12_readsCompared 64 = .ok (.invokevirtual 139, 3) := by decide +kernel
theorem dX12_readsCompared_67 : decode cX12_readsCompared 67 = .ok (.ireturn, 1) := by decide +kernel
theorem dX12_readsCompared_68 : decode cX12_readsCompared 68 = .ok (.aload_n 0, 1) := by decide +kernel
theorem dX12_readsCompared_69 : decode cX12_readsCompared 69 = .ok (.aload_n 0, 1) := by decide +kernel
theorem dX12_readsCompared_70 : decode cX12_readsCompared 70 = .ok (.getfield 126, 3) := by decide +kernel
theorem dX12_readsCompared_73 : decode cX12_readsCompared 73 = .ok (.iconst 1, 1) := by decide +kernel
theorem dX12_readsCompared_74 : decode cX12_readsCompared 74 = .ok (.iadd, 1) := by decide +kernel
theorem dX12_readsCompared_75 : decode cX12_readsCompared 75 = .ok (.putfield 126, 3) := by decide +kernel
theorem dX12_readsCompared_78 : decode cX12_readsCompared 78 = .ok (.aload_n 0, 1) := by decide +kernel
theorem dX12_readsCompared_79 : decode cX12_readsCompared 79 = .ok (.invokevirtual 190, 3) := by decide +kernel
theorem dX12_readsCompared_82 : decode cX12_readsCompared 82 = .ok (.ifCond .ne 5, 3) := by decide +kernel
theorem dX12_readsCompared_85 : decode cX12_readsCompared 85 = .ok (.iconst 0, 1) := by decide +kernel
theorem dX12_readsCompared_86 : decode cX12_readsCompared 86 = .ok (.ireturn, 1) := by decide +kernel
theorem dX12_readsCompared_87 : decode cX12_readsCompared 87 = .ok (.aload_n 0, 1) := by decide +kernel
theorem dX12_readsCompared_88 : decode cX12_readsCompared 88 = .ok (.iload_n 1, 1) := by decide +kernel
theorem dX12_readsCompared_89 : decode cX12_readsCompared 89 = .ok (.iconst 0, 1) := by decide +kernel
theorem dX12_readsCompared_90 : decode cX12_readsCompared 90 = .ok (.invokevirtual 163, 3) := by decide +kernel
theorem dX12_readsCompared_93 : decode cX12_readsCompared 93 = .ok (.aload_n 0, 1) := by decide +kernel
theorem dX12_readsCompared_94 : decode cX12_readsCompared 94 = .ok (.invokevirtual 193, 3) := by decide +kernel
theorem dX12_readsCompared_97 : decode cX12_readsCompared 97 = .ok (.iconst 1, 1) := by decide +kernel
theorem dX12_readsCompared_98 : decode cX12_readsCompared 98 = .ok (.ireturn, 1) := by decide +kernel
def md_X12_readsCompared : List (Nat × Nat) := [(10, 5), (10, 7), (10, 8), (10, 9), (10, 10), (10, 11), (150, 0), (151, 0)]
set_option maxRecDepth 100000 in
set_option maxHeartbeats 4000000 in
theorem c_X12_readsCompared {l : Launch} {D : q_D} (τ : q_T) (σ : q_V) (a0 : Nat) (hI : q_I τ σ) (tA0 : τ a0 = some (10, 1)) (bs bw : Nat) (hbs : σ a0 15 = .ref bs) (hbw : σ a0 16 = .ref bw) (Tbs : τ bs = some (150, 260)) (Tbw : τ bw = some (151, 260)) (cq wq pq : Int32) (hcq : σ a0 10 = .int cq) (hwq : σ a0 11 = .int wq) (hpq : σ a0 5 = .int pq) (S0 : Nat → Value) (F : Nat) (hQ : q_cn (σ bs) (σ bw) S0 F cq.toInt wq.toInt 0 pq.toInt 0) (h1w : 1 ≤ wq.toInt) : q_Ci l D yX12_readsCompared cX12_readsCompared 2 (some .boolean) 5 104 τ σ [.ref a0] (fun r σ1 => q_S md_X12_readsCompared τ σ σ1 ∧ (q_r r 0 1) ∧ ((r.toInt, fx_N σ1) = f_X12_readsCompared (fx_N σ) a0) ∧ (r.toInt = 1 → q_x (∃ c1 w1 p1 : Int32, (σ1 a0 10 = .int c1 ∧ σ1 a0 11 = .int w1 ∧ σ1 a0 5 = .int p1) ∧ q_cn (σ1 bs) (σ1 bw) S0 F c1.toInt w1.toInt 0 p1.toInt 1 ∧ 1 ≤ w1.toInt ∧ pq.toInt < p1.toInt))) := by
  refine q_meti rfl (Nat.le_of_ble_eq_true rfl) (fun X hG hE => ?_)
  show q_O X 0 0 τ σ 0 [(0, .ref a0)] []
  have hS0 : q_S md_X12_readsCompared τ σ σ := q_S.rf hI
  obtain ⟨Fv, hF⟩ : ∃ z, fx_eq z (f_X12_readsCompared (fx_N σ) a0) := ⟨_, fx_rf⟩
  have hF0 := hF
  unfold f_X12_readsCompared at hF
  replace hF := fx_R hF hbs rfl
  replace hF := fx_R hF hbw rfl
  replace hF := fx_I hF hcq rfl
  replace hF := fx_I hF hwq rfl
  replace hF := fx_I hF hpq rfl
  refine q_aload_n (pc := 0) hG dX12_readsCompared_0 0 rfl ?_
  refine q_cVi (pc := 1) [] [] hG (c_X12_readsSum τ σ a0 hI tA0 bs bw hbs hbw Tbs Tbw cq wq pq hcq hwq hpq S0 F (0) (0) hQ.sm (by decide)) my_X12_readsSum mv_X12_readsSum w907 dX12_readsCompared_1 tA0 (by decide) rfl rfl (Nat.le_of_ble_eq_true rfl) (by decide) (fun v1 s1 p1 => ?_)
  have w1 := hS0.trans p1.1 rfl
  replace hF := fx_C hF p1.2.2.1
  refine q_if_ne (pc := 4) hG 9 dX12_readsCompared_4 rfl ?_ ?_
  · intro c4
    have g_1 := p1.2.2.2 (q_one p1.2.1 c4)
    obtain ⟨c4_1, p4_1, ⟨fc1, fw1, fp1⟩, qq1, lp1, ek1⟩ := g_1
    have Q1 : q_cn (s1 bs) (s1 bw) S0 F c4_1.toInt wq.toInt 0 p4_1.toInt 1 := by
      exact q_sm.cn hQ qq1 ek1
    replace hF := fx_eq2 hF rfl rfl c4
    replace hF := fx_I hF fc1 rfl
    replace hF := fx_I hF fp1 rfl
    refine q_aload_n (pc := 9) hG dX12_readsCompared_9 0 rfl ?_
    refine q_pV (pc := 10) [] [] hG (c_X12_here τ s1 a0 w1.1 tA0) my_X12_here mv_X12_here w879 dX12_readsCompared_10 tA0 (by decide) rfl rfl (Nat.le_of_ble_eq_true rfl) (by decide) (fun v10 p10 => ?_)
    replace hF := fx_E hF p10.2.1
    refine q_bipush (pc := 13) hG dX12_readsCompared_13 kb_60 ?_
    have J52 : ∀ (p52_s0 : Int32), (q_r p52_s0 (-1) 9) → (p52_s0.toInt = -1 ∨ (7 ≤ p52_s0.toInt ∧ p4_1.toInt ≤ 259)) → (fx_eq Fv (kJ_X12_readsCompared_52 (fx_N s1) a0 p4_1.toInt p52_s0.toInt)) → q_O X 0 0 τ s1 52 [(0, .ref a0)] [.int p52_s0] := by
      intro p52_s0 r52_s0 iH52 hF
      unfold kJ_X12_readsCompared_52 at hF
      refine q_istore_n (pc := 52) [(1, .int p52_s0), (0, .ref a0)] hG dX12_readsCompared_52 (by decide) rfl ?_
      refine q_iload_n (pc := 53) hG dX12_readsCompared_53 0 rfl ?_
      refine q_iconst (pc := 54) hG dX12_readsCompared_54 ki_m1 ?_
      refine q_icmp_ne (pc := 55) hG 68 dX12_readsCompared_55 rfl ?_ ?_
      · intro c55
        replace hF := fx_eq2 hF rfl tl_m1 c55
        refine q_aload_n (pc := 68) hG dX12_readsCompared_68 1 rfl ?_
        refine q_aload_n (pc := 69) hG dX12_readsCompared_69 1 rfl ?_
        refine q_getV (pc := 70) (v := .int p4_1) hG fl_X12_126 dX12_readsCompared_70 tA0 fp1 ?_
        refine q_iconst (pc := 73) hG dX12_readsCompared_73 ki_1 ?_
        refine q_iadd (pc := 74) hG dX12_readsCompared_74 (fun v74 e74 => ?_)
        have r_2 := (show q_r p4_1 0 260 from ⟨by have q := Q1.rng; omega, by have q := Q1.rng; omega⟩)
        replace hF := fx_add hF rfl tl_1 (q_addN (lo := 1) (hi := 261) e74 r_2 rl_1 (by decide)).1
        have r_3 := (show q_r c4_1 0 260 from ⟨by have q := Q1.rng; omega, by have q := Q1.rng; omega⟩)
        have r_4 := (show q_r cq 0 260 from ⟨by have q := hQ.rng; omega, by have q := hQ.rng; omega⟩)
        have r_5 := q_neL (c := 0) r52_s0 (q_nel c55 tl_m1) (by decide)
        have r_6 := (show q_r pq 0 260 from ⟨by have q := hQ.rng; omega, by have q := hQ.rng; omega⟩)
        have r_7 := (q_addN (lo := 1) (hi := 261) e74 r_2 rl_1 (by decide)).2
        have r_8 := (show q_r wq 0 260 from ⟨by have q := hQ.rng; omega, by have q := hQ.rng; omega⟩)
        refine q_putI (pc := 75) hG fl_X12_126 dX12_readsCompared_75 w1 tA0 ff_10_5 (show q_r v74 0 260 from ⟨(by have o0 := (q_addN (lo := 1) (hi := 261) e74 r_2 rl_1 (by decide)).1; have o1 := Q1.rng; have o2 := lp1; have o3 := (p10.2.2.1 p4_1 fp1); have o4 := p10.2.2.2; have o5 := iH52; have o6 := c55; have o7 := hQ.rng; have o8 := h1w; have o9 := r_3; have o10 := r_4; have o11 := r_2; have o12 := r_5; have o13 := r_6; have o14 := p10.1; have o15 := r_7; have o16 := r_8; have l17 := tl_m1; have l18 := tl_1; unfold q_r at o9 o10 o11 o12 o13 o14 o15 o16; omega), (by have o0 := (q_addN (lo := 1) (hi := 261) e74 r_2 rl_1 (by decide)).1; have o1 := Q1.rng; have o2 := lp1; have o3 := (p10.2.2.1 p4_1 fp1); have o4 := p10.2.2.2; have o5 := iH52; have o6 := c55; have o7 := hQ.rng; have o8 := h1w; have o9 := r_3; have o10 := r_4; have o11 := r_2; have o12 := r_5; have o13 := r_6; have o14 := p10.1; have o15 := r_7; have o16 := r_8; have l17 := tl_m1; have l18 := tl_1; unfold q_r at o9 o10 o11 o12 o13 o14 o15 o16; omega)⟩) (by decide) rfl (fun s75 u75 w75 => ?_)
        replace hF := fx_P hF u75 rfl rfl
        have m75 : s75 a0 5 = .int v74 := by rw [u75]; exact q_up_same
        have Q75 : q_cn (s75 bs) (s75 bw) S0 F c4_1.toInt wq.toInt 1 v74.toInt 1 := by
          rw [(by rw [u75]; exact q_upK Tbs tA0 (by decide) : s75 bs = s1 bs), (by rw [u75]; exact q_upK Tbw tA0 (by decide) : s75 bw = s1 bw), (show v74.toInt = p4_1.toInt + 1 from (by have o0 := Q1.rng; have o1 := lp1; have o2 := (p10.2.2.1 p4_1 fp1); have o3 := p10.2.2.2; have o4 := iH52; have o5 := c55; have o6 := (q_addN (lo := 1) (hi := 261) e74 r_2 rl_1 (by decide)).1; have o7 := hQ.rng; have o8 := h1w; have o9 := r_3; have o10 := r_4; have o11 := r_2; have o12 := r_5; have o13 := r_6; have o14 := p10.1; have o15 := r_7; have o16 := r_8; have l17 := tl_m1; have l18 := tl_1; unfold q_r at o9 o10 o11 o12 o13 o14 o15 o16; omega))]
          exact Q1.slack0 (by have o0 := Q1.rng; have o1 := lp1; have o2 := (p10.2.2.1 p4_1 fp1); have o3 := p10.2.2.2; have o4 := iH52; have o5 := c55; have o6 := (q_addN (lo := 1) (hi := 261) e74 r_2 rl_1 (by decide)).1; have o7 := hQ.rng; have o8 := h1w; have o9 := r_3; have o10 := r_4; have o11 := r_2; have o12 := r_5; have o13 := r_6; have o14 := p10.1; have o15 := r_7; have o16 := r_8; have l17 := tl_m1; have l18 := tl_1; unfold q_r at o9 o10 o11 o12 o13 o14 o15 o16; omega)
        refine q_aload_n (pc := 78) hG dX12_readsCompared_78 1 rfl ?_
        refine q_cVi (pc := 79) [] [] hG (c_X12_readsSum τ s75 a0 w75.1 tA0 bs bw (w75.same tA0 rfl hbs) (w75.same tA0 rfl hbw) Tbs Tbw c4_1 wq v74 (by rw [u75]; exact (q_up_else (Or.inr (by decide))).trans fc1) (by rw [u75]; exact (q_up_else (Or.inr (by decide))).trans fw1) m75 S0 F (1) (1) Q75.sm (by decide)) my_X12_readsSum mv_X12_readsSum w907 dX12_readsCompared_79 tA0 (by decide) rfl rfl (Nat.le_of_ble_eq_true rfl) (by decide) (fun v79 s79 p79 => ?_)
        have w79 := w75.trans p79.1 rfl
        replace hF := fx_C hF p79.2.2.1
        refine q_if_ne (pc := 82) hG 87 dX12_readsCompared_82 rfl ?_ ?_
        · intro c82
          have g_9 := p79.2.2.2 (q_one p79.2.1 c82)
          obtain ⟨c4_79, p4_79, ⟨fc79, fw79, fp79⟩, qq79, lp79, ek79⟩ := g_9
          have Q79 : q_cn (s79 bs) (s79 bw) S0 F c4_79.toInt wq.toInt 1 p4_79.toInt 2 := by
            exact q_sm.cn Q75 qq79 ek79
          replace hF := fx_eq2 hF rfl rfl c82
          replace hF := fx_I hF fc79 rfl
          replace hF := fx_I hF fp79 rfl
          refine q_aload_n (pc := 87) hG dX12_readsCompared_87 1 rfl ?_
          refine q_iload_n (pc := 88) hG dX12_readsCompared_88 0 rfl ?_
          refine q_iconst (pc := 89) hG dX12_readsCompared_89 ki_0 ?_
          have r_10 := (show q_r c4_79 0 260 from ⟨by have q := Q79.rng; omega, by have q := Q79.rng; omega⟩)
          have r_11 := (show q_r p4_79 0 260 from ⟨by have q := Q79.rng; omega, by have q := Q79.rng; omega⟩)
          have r_12 := (show q_r v74 0 260 from ⟨by have q := Q75.rng; omega, by have q := Q75.rng; omega⟩)
          refine q_cVv (pc := 90) [.int p52_s0, .int 0] [] hG (c_X12_notes τ s79 a0 p52_s0 0 w79.1 tA0 (q_r.mono r_5 (by decide)) (q_r.mono rl_0 (by decide)) bs (w79.same tA0 rfl hbs) Tbs c4_79 fc79 (show q_r c4_79 0 259 from ⟨(by have o0 := Q79.rng; have o1 := lp79; have o2 := hQ.rng; have o3 := h1w; have o4 := Q1.rng; have o5 := lp1; have o6 := (p10.2.2.1 p4_1 fp1); have o7 := p10.2.2.2; have o8 := iH52; have o9 := c55; have o10 := (q_addN (lo := 1) (hi := 261) e74 r_2 rl_1 (by decide)).1; have o11 := Q75.rng; have o12 := r_3; have o13 := r_10; have o14 := r_4; have o15 := r_2; have o16 := r_11; have o17 := r_5; have o18 := r_6; have o19 := p10.1; have o20 := r_12; have o21 := r_8; have l22 := tl_m1; have l23 := tl_1; unfold q_r at o12 o13 o14 o15 o16 o17 o18 o19 o20 o21; omega), (by have o0 := Q79.rng; have o1 := lp79; have o2 := hQ.rng; have o3 := h1w; have o4 := Q1.rng; have o5 := lp1; have o6 := (p10.2.2.1 p4_1 fp1); have o7 := p10.2.2.2; have o8 := iH52; have o9 := c55; have o10 := (q_addN (lo := 1) (hi := 261) e74 r_2 rl_1 (by decide)).1; have o11 := Q75.rng; have o12 := r_3; have o13 := r_10; have o14 := r_4; have o15 := r_2; have o16 := r_11; have o17 := r_5; have o18 := r_6; have o19 := p10.1; have o20 := r_12; have o21 := r_8; have l22 := tl_m1; have l23 := tl_1; unfold q_r at o12 o13 o14 o15 o16 o17 o18 o19 o20 o21; omega)⟩)) my_X12_notes mv_X12_notes w920 dX12_readsCompared_90 tA0 (by decide) rfl rfl (Nat.le_of_ble_eq_true rfl) (by decide) (fun s90 p90 => ?_)
          have w90 := w79.trans p90.1 rfl
          have fq90 := p90.2.1
          rewrite [tl_0] at fq90
          replace hF := fx_S hF fq90
          obtain ⟨xn90, c1_90, en90, fx90, fc1_90, gc1_90⟩ := p90.2.2
          replace hF := fx_I hF fc1_90 rfl
          have r_13 := (show q_r c1_90 1 260 from ⟨by have q := gc1_90; have q2 := (show q_r c4_79 0 259 from ⟨(by have o0 := Q79.rng; have o1 := lp79; have o2 := hQ.rng; have o3 := h1w; have o4 := Q1.rng; have o5 := lp1; have o6 := (p10.2.2.1 p4_1 fp1); have o7 := p10.2.2.2; have o8 := iH52; have o9 := c55; have o10 := (q_addN (lo := 1) (hi := 261) e74 r_2 rl_1 (by decide)).1; have o11 := Q75.rng; have o12 := r_3; have o13 := r_10; have o14 := r_4; have o15 := r_2; have o16 := r_11; have o17 := r_5; have o18 := r_6; have o19 := p10.1; have o20 := r_12; have o21 := r_8; have l22 := tl_m1; have l23 := tl_1; unfold q_r at o12 o13 o14 o15 o16 o17 o18 o19 o20 o21; omega), (by have o0 := Q79.rng; have o1 := lp79; have o2 := hQ.rng; have o3 := h1w; have o4 := Q1.rng; have o5 := lp1; have o6 := (p10.2.2.1 p4_1 fp1); have o7 := p10.2.2.2; have o8 := iH52; have o9 := c55; have o10 := (q_addN (lo := 1) (hi := 261) e74 r_2 rl_1 (by decide)).1; have o11 := Q75.rng; have o12 := r_3; have o13 := r_10; have o14 := r_4; have o15 := r_2; have o16 := r_11; have o17 := r_5; have o18 := r_6; have o19 := p10.1; have o20 := r_12; have o21 := r_8; have l22 := tl_m1; have l23 := tl_1; unfold q_r at o12 o13 o14 o15 o16 o17 o18 o19 o20 o21; omega)⟩); unfold q_r at q2; omega, by have q := gc1_90; have q2 := (show q_r c4_79 0 259 from ⟨(by have o0 := Q79.rng; have o1 := lp79; have o2 := hQ.rng; have o3 := h1w; have o4 := Q1.rng; have o5 := lp1; have o6 := (p10.2.2.1 p4_1 fp1); have o7 := p10.2.2.2; have o8 := iH52; have o9 := c55; have o10 := (q_addN (lo := 1) (hi := 261) e74 r_2 rl_1 (by decide)).1; have o11 := Q75.rng; have o12 := r_3; have o13 := r_10; have o14 := r_4; have o15 := r_2; have o16 := r_11; have o17 := r_5; have o18 := r_6; have o19 := p10.1; have o20 := r_12; have o21 := r_8; have l22 := tl_m1; have l23 := tl_1; unfold q_r at o12 o13 o14 o15 o16 o17 o18 o19 o20 o21; omega), (by have o0 := Q79.rng; have o1 := lp79; have o2 := hQ.rng; have o3 := h1w; have o4 := Q1.rng; have o5 := lp1; have o6 := (p10.2.2.1 p4_1 fp1); have o7 := p10.2.2.2; have o8 := iH52; have o9 := c55; have o10 := (q_addN (lo := 1) (hi := 261) e74 r_2 rl_1 (by decide)).1; have o11 := Q75.rng; have o12 := r_3; have o13 := r_10; have o14 := r_4; have o15 := r_2; have o16 := r_11; have o17 := r_5; have o18 := r_6; have o19 := p10.1; have o20 := r_12; have o21 := r_8; have l22 := tl_m1; have l23 := tl_1; unfold q_r at o12 o13 o14 o15 o16 o17 o18 o19 o20 o21; omega)⟩); unfold q_r at q2; omega⟩)
          have Q90 : q_cn (s90 bs) (s90 bw) S0 F c1_90.toInt wq.toInt 0 p4_79.toInt 1 := by
            rw [en90, ((funext fun j => p90.1.2.arr Tbw (by decide) rfl) : s90 bw = s79 bw), gc1_90]
            exact Q79.cmp (o := p52_s0.toInt) (by have o0 := iH52; have o1 := c55; have o2 := (q_addN (lo := 1) (hi := 261) e74 r_2 rl_1 (by decide)).1; have o3 := Q75.rng; have o4 := Q79.rng; have o5 := lp79; have o6 := gc1_90; have o7 := fx90; have o8 := hQ.rng; have o9 := h1w; have o10 := Q1.rng; have o11 := lp1; have o12 := (p10.2.2.1 p4_1 fp1); have o13 := p10.2.2.2; have o14 := r_13; have o15 := r_3; have o16 := r_10; have o17 := r_4; have o18 := r_2; have o19 := r_11; have o20 := r_5; have o21 := r_6; have o22 := p10.1; have o23 := r_12; have o24 := r_8; have l25 := tl_m1; have l26 := tl_0; have l27 := tl_1; unfold q_r at o14 o15 o16 o17 o18 o19 o20 o21 o22 o23 o24; omega) (by have o0 := iH52; have o1 := c55; have o2 := (q_addN (lo := 1) (hi := 261) e74 r_2 rl_1 (by decide)).1; have o3 := Q75.rng; have o4 := Q79.rng; have o5 := lp79; have o6 := gc1_90; have o7 := fx90; have o8 := hQ.rng; have o9 := h1w; have o10 := Q1.rng; have o11 := lp1; have o12 := (p10.2.2.1 p4_1 fp1); have o13 := p10.2.2.2; have o14 := r_13; have o15 := r_3; have o16 := r_10; have o17 := r_4; have o18 := r_2; have o19 := r_11; have o20 := r_5; have o21 := r_6; have o22 := p10.1; have o23 := r_12; have o24 := r_8; have l25 := tl_m1; have l26 := tl_0; have l27 := tl_1; unfold q_r at o14 o15 o16 o17 o18 o19 o20 o21 o22 o23 o24; omega)
          refine q_aload_n (pc := 93) hG dX12_readsCompared_93 1 rfl ?_
          refine q_cVv (pc := 94) [] [] hG (c_X12_endsPiece τ s90 a0 w90.1 tA0 bs bw (w90.same tA0 rfl hbs) (w90.same tA0 rfl hbw) Tbs Tbw c1_90 wq p4_79 fc1_90 (p90.1.same tA0 rfl fw79) (p90.1.same tA0 rfl fp79) S0 F (0) Q90 (by have o0 := hQ.rng; have o1 := h1w; have o2 := Q1.rng; have o3 := lp1; have o4 := (p10.2.2.1 p4_1 fp1); have o5 := p10.2.2.2; have o6 := iH52; have o7 := c55; have o8 := (q_addN (lo := 1) (hi := 261) e74 r_2 rl_1 (by decide)).1; have o9 := Q75.rng; have o10 := Q79.rng; have o11 := lp79; have o12 := gc1_90; have o13 := fx90; have o14 := Q90.rng; have o15 := r_13; have o16 := r_3; have o17 := r_10; have o18 := r_4; have o19 := r_2; have o20 := r_11; have o21 := r_5; have o22 := r_6; have o23 := p10.1; have o24 := r_12; have o25 := r_8; have l26 := tl_m1; have l27 := tl_0; have l28 := tl_1; unfold q_r at o15 o16 o17 o18 o19 o20 o21 o22 o23 o24 o25; omega)) my_X12_endsPiece mv_X12_endsPiece w944 dX12_readsCompared_94 tA0 (by decide) rfl rfl (Nat.le_of_ble_eq_true rfl) (by decide) (fun s94 p94 => ?_)
          have w94 := w90.trans p94.1 rfl
          replace hF := fx_S hF p94.2.1
          obtain ⟨c2_94, w2_94, fc94, fw94, qq94, lw94⟩ := p94.2.2
          have Q94 : q_cn (s94 bs) (s94 bw) S0 F c2_94.toInt w2_94.toInt 0 p4_79.toInt 1 := by
            rw [((funext fun j => p94.1.2.arr Tbw (by decide) rfl) : s94 bw = s90 bw)]
            exact qq94
          replace hF := fx_I hF fc94 rfl
          replace hF := fx_I hF fw94 rfl
          refine q_iconst (pc := 97) hG dX12_readsCompared_97 ki_1 ?_
          have r_14 := (show q_r c2_94 0 260 from ⟨by have q := Q94.rng; omega, by have q := Q94.rng; omega⟩)
          have r_15 := (show q_r w2_94 0 260 from ⟨by have q := Q94.rng; omega, by have q := Q94.rng; omega⟩)
          exact q_zrt hG hE dX12_readsCompared_98 (q_r.mono rl_1 (by decide)) ⟨w94, (q_r.mono rl_1 (by decide)), (by rw [tl_1]; exact fx_end hF hF0), (fun _ => q_x.mk ⟨c2_94, w2_94, p4_79, ⟨fc94, fw94, (p94.1.same tA0 rfl (p90.1.same tA0 rfl fp79))⟩, Q94, (by have o0 := lw94; have o1 := Q94.rng; have o2 := Q79.rng; have o3 := lp79; have o4 := gc1_90; have o5 := Q90.rng; have o6 := hQ.rng; have o7 := h1w; have o8 := Q1.rng; have o9 := lp1; have o10 := (p10.2.2.1 p4_1 fp1); have o11 := p10.2.2.2; have o12 := iH52; have o13 := c55; have o14 := (q_addN (lo := 1) (hi := 261) e74 r_2 rl_1 (by decide)).1; have o15 := Q75.rng; have o16 := fx90; have o17 := r_13; have o18 := r_14; have o19 := r_3; have o20 := r_10; have o21 := r_4; have o22 := r_2; have o23 := r_11; have o24 := r_5; have o25 := r_6; have o26 := p10.1; have o27 := r_12; have o28 := r_15; have o29 := r_8; have l30 := tl_m1; have l31 := tl_0; have l32 := tl_1; unfold q_r at o17 o18 o19 o20 o21 o22 o23 o24 o25 o26 o27 o28 o29; omega), (by have o0 := hQ.rng; have o1 := h1w; have o2 := Q1.rng; have o3 := lp1; have o4 := (p10.2.2.1 p4_1 fp1); have o5 := p10.2.2.2; have o6 := iH52; have o7 := c55; have o8 := (q_addN (lo := 1) (hi := 261) e74 r_2 rl_1 (by decide)).1; have o9 := Q75.rng; have o10 := Q79.rng; have o11 := lp79; have o12 := gc1_90; have o13 := fx90; have o14 := Q90.rng; have o15 := Q94.rng; have o16 := lw94; have o17 := r_13; have o18 := r_14; have o19 := r_3; have o20 := r_10; have o21 := r_4; have o22 := r_2; have o23 := r_11; have o24 := r_5; have o25 := r_6; have o26 := p10.1; have o27 := r_12; have o28 := r_15; have o29 := r_8; have l30 := tl_m1; have l31 := tl_0; have l32 := tl_1; unfold q_r at o17 o18 o19 o20 o21 o22 o23 o24 o25 o26 o27 o28 o29; omega)⟩)⟩
        intro c82
        replace hF := fx_eq1 hF rfl rfl c82
        refine q_iconst (pc := 85) hG dX12_readsCompared_85 ki_0 ?_
        exact q_zrt hG hE dX12_readsCompared_86 (q_r.mono rl_0 (by decide)) ⟨w79, (q_r.mono rl_0 (by decide)), (by rw [tl_0]; exact fx_end hF hF0), (fun q => absurd q (by have l0 := tl_0; omega))⟩
      intro c55
      replace hF := fx_eq1 hF rfl tl_m1 c55
      refine q_aload_n (pc := 58) hG dX12_readsCompared_58 1 rfl ?_
      refine q_iconst (pc := 59) hG dX12_readsCompared_59 ki_1 ?_
      refine q_aload_n (pc := 60) hG dX12_readsCompared_60 1 rfl ?_
      refine q_getV (pc := 61) (v := .int p4_1) hG fl_X12_126 dX12_readsCompared_61 tA0 fp1 ?_
      refine q_cVi (pc := 64) [.int 1, .int p4_1] [] hG (c_X12_wrongAt τ s1 a0 1 p4_1 w1.1 tA0) my_X12_wrongAt mv_X12_wrongAt w888 dX12_readsCompared_64 tA0 (by decide) rfl rfl (Nat.le_of_ble_eq_true rfl) (by decide) (fun v64 s64 p64 => ?_)
      have w64 := w1.trans p64.1 rfl
      have fq64 := p64.2.2
      rewrite [tl_1] at fq64
      replace hF := fx_C hF fq64
      exact q_zrt hG hE dX12_readsCompared_67 (q_r.mono p64.2.1 (by decide)) ⟨w64, (q_r.mono p64.2.1 (by decide)), (fx_end hF hF0), (fun q => absurd q (by have o0 := p64.2.1; unfold q_r at o0; omega))⟩
    refine q_icmp_ne (pc := 15) hG 23 dX12_readsCompared_15 rfl ?_ ?_
    · intro c15
      replace hF := fx_eq2 hF rfl tl_60 c15
      refine q_aload_n (pc := 23) hG dX12_readsCompared_23 0 rfl ?_
      refine q_pV (pc := 24) [] [] hG (c_X12_here τ s1 a0 w1.1 tA0) my_X12_here mv_X12_here w879 dX12_readsCompared_24 tA0 (by decide) rfl rfl (Nat.le_of_ble_eq_true rfl) (by decide) (fun v24 p24 => ?_)
      replace hF := fx_E hF p24.2.1
      refine q_bipush (pc := 27) hG dX12_readsCompared_27 kb_62 ?_
      refine q_icmp_ne (pc := 29) hG 37 dX12_readsCompared_29 rfl ?_ ?_
      · intro c29
        replace hF := fx_eq2 hF rfl tl_62 c29
        refine q_aload_n (pc := 37) hG dX12_readsCompared_37 0 rfl ?_
        refine q_pV (pc := 38) [] [] hG (c_X12_here τ s1 a0 w1.1 tA0) my_X12_here mv_X12_here w879 dX12_readsCompared_38 tA0 (by decide) rfl rfl (Nat.le_of_ble_eq_true rfl) (by decide) (fun v38 p38 => ?_)
        replace hF := fx_E hF p38.2.1
        refine q_bipush (pc := 41) hG dX12_readsCompared_41 kb_61 ?_
        refine q_icmp_ne (pc := 43) hG 51 dX12_readsCompared_43 rfl ?_ ?_
        · intro c43
          replace hF := fx_eq2 hF rfl tl_61 c43
          refine q_iconst (pc := 51) hG dX12_readsCompared_51 ki_m1 ?_
          refine q_lv [0] rfl ?_
          have r_16 := (show q_r c4_1 0 260 from ⟨by have q := Q1.rng; omega, by have q := Q1.rng; omega⟩)
          have r_17 := (show q_r cq 0 260 from ⟨by have q := hQ.rng; omega, by have q := hQ.rng; omega⟩)
          have r_18 := (show q_r p4_1 0 260 from ⟨by have q := Q1.rng; omega, by have q := Q1.rng; omega⟩)
          have r_19 := (show q_r pq 0 260 from ⟨by have q := hQ.rng; omega, by have q := hQ.rng; omega⟩)
          have r_20 := (show q_r wq 0 260 from ⟨by have q := hQ.rng; omega, by have q := hQ.rng; omega⟩)
          exact J52 (-1) (q_r.mono rl_m1 (by decide)) (by have o0 := Q1.rng; have o1 := lp1; have o2 := (p10.2.2.1 p4_1 fp1); have o3 := p10.2.2.2; have o4 := c15; have o5 := p24.2.2.2; have o6 := c29; have o7 := p38.2.2.2; have o8 := c43; have o9 := hQ.rng; have o10 := h1w; have o11 := r_16; have o12 := r_17; have o13 := r_18; have o14 := r_19; have o15 := p10.1; have o16 := p24.1; have o17 := p38.1; have o18 := r_20; have l19 := tl_m1; have l20 := tl_60; have l21 := tl_61; have l22 := tl_62; unfold q_r at o11 o12 o13 o14 o15 o16 o17 o18; omega) (by rw [tl_m1]; exact hF)
        intro c43
        replace hF := fx_eq1 hF rfl tl_61 c43
        refine q_bipush (pc := 46) hG dX12_readsCompared_46 kb_9 ?_
        refine q_goto (pc := 48) 52 hG dX12_readsCompared_48 rfl ?_
        refine q_lv [0] rfl ?_
        have r_21 := (show q_r c4_1 0 260 from ⟨by have q := Q1.rng; omega, by have q := Q1.rng; omega⟩)
        have r_22 := (show q_r cq 0 260 from ⟨by have q := hQ.rng; omega, by have q := hQ.rng; omega⟩)
        have r_23 := (show q_r p4_1 0 260 from ⟨by have q := Q1.rng; omega, by have q := Q1.rng; omega⟩)
        have r_24 := (show q_r pq 0 260 from ⟨by have q := hQ.rng; omega, by have q := hQ.rng; omega⟩)
        have r_25 := q_req rl_61 c43
        have r_26 := (show q_r wq 0 260 from ⟨by have q := hQ.rng; omega, by have q := hQ.rng; omega⟩)
        exact J52 9 (q_r.mono rl_9 (by decide)) (by have o0 := Q1.rng; have o1 := lp1; have o2 := (p10.2.2.1 p4_1 fp1); have o3 := p10.2.2.2; have o4 := c15; have o5 := p24.2.2.2; have o6 := c29; have o7 := p38.2.2.2; have o8 := c43; have o9 := hQ.rng; have o10 := h1w; have o11 := r_21; have o12 := r_22; have o13 := r_23; have o14 := r_24; have o15 := p10.1; have o16 := p24.1; have o17 := r_25; have o18 := r_26; have l19 := tl_9; have l20 := tl_60; have l21 := tl_61; have l22 := tl_62; unfold q_r at o11 o12 o13 o14 o15 o16 o17 o18; omega) (by rw [tl_9]; exact hF)
      intro c29
      replace hF := fx_eq1 hF rfl tl_62 c29
      refine q_bipush (pc := 32) hG dX12_readsCompared_32 kb_8 ?_
      refine q_goto (pc := 34) 52 hG dX12_readsCompared_34 rfl ?_
      refine q_lv [0] rfl ?_
      have r_27 := (show q_r c4_1 0 260 from ⟨by have q := Q1.rng; omega, by have q := Q1.rng; omega⟩)
      have r_28 := (show q_r cq 0 260 from ⟨by have q := hQ.rng; omega, by have q := hQ.rng; omega⟩)
      have r_29 := (show q_r p4_1 0 260 from ⟨by have q := Q1.rng; omega, by have q := Q1.rng; omega⟩)
      have r_30 := (show q_r pq 0 260 from ⟨by have q := hQ.rng; omega, by have q := hQ.rng; omega⟩)
      have r_31 := q_req rl_62 c29
      have r_32 := (show q_r wq 0 260 from ⟨by have q := hQ.rng; omega, by have q := hQ.rng; omega⟩)
      exact J52 8 (q_r.mono rl_8 (by decide)) (by have o0 := Q1.rng; have o1 := lp1; have o2 := (p10.2.2.1 p4_1 fp1); have o3 := p10.2.2.2; have o4 := c15; have o5 := p24.2.2.2; have o6 := c29; have o7 := hQ.rng; have o8 := h1w; have o9 := r_27; have o10 := r_28; have o11 := r_29; have o12 := r_30; have o13 := p10.1; have o14 := r_31; have o15 := r_32; have l16 := tl_8; have l17 := tl_60; have l18 := tl_62; unfold q_r at o9 o10 o11 o12 o13 o14 o15; omega) (by rw [tl_8]; exact hF)
    intro c15
    replace hF := fx_eq1 hF rfl tl_60 c15
    refine q_bipush (pc := 18) hG dX12_readsCompared_18 kb_7 ?_
    refine q_goto (pc := 20) 52 hG dX12_readsCompared_20 rfl ?_
    refine q_lv [0] rfl ?_
    have r_33 := (show q_r c4_1 0 260 from ⟨by have q := Q1.rng; omega, by have q := Q1.rng; omega⟩)
    have r_34 := (show q_r cq 0 260 from ⟨by have q := hQ.rng; omega, by have q := hQ.rng; omega⟩)
    have r_35 := (show q_r p4_1 0 260 from ⟨by have q := Q1.rng; omega, by have q := Q1.rng; omega⟩)
    have r_36 := (show q_r pq 0 260 from ⟨by have q := hQ.rng; omega, by have q := hQ.rng; omega⟩)
    have r_37 := q_req rl_60 c15
    have r_38 := (show q_r wq 0 260 from ⟨by have q := hQ.rng; omega, by have q := hQ.rng; omega⟩)
    exact J52 7 (q_r.mono rl_7 (by decide)) (by have o0 := Q1.rng; have o1 := lp1; have o2 := (p10.2.2.1 p4_1 fp1); have o3 := p10.2.2.2; have o4 := c15; have o5 := hQ.rng; have o6 := h1w; have o7 := r_33; have o8 := r_34; have o9 := r_35; have o10 := r_36; have o11 := r_37; have o12 := r_38; have l13 := tl_7; have l14 := tl_60; unfold q_r at o7 o8 o9 o10 o11 o12; omega) (by rw [tl_7]; exact hF)
  intro c4
  replace hF := fx_eq1 hF rfl rfl c4
  refine q_iconst (pc := 7) hG dX12_readsCompared_7 ki_0 ?_
  exact q_zrt hG hE dX12_readsCompared_8 (q_r.mono rl_0 (by decide)) ⟨w1, (q_r.mono rl_0 (by decide)), (by rw [tl_0]; exact fx_end hF hF0), (fun q => absurd q (by have l0 := tl_0; omega))⟩
