/-! A LAW IN WHICH NO t STANDS says the same in every minute -/
def zv_not (L : List (Int × Int)) : Prop := ∀ c ∈ L, c ≠ (105, 116)
theorem zv_not.l {a b : List (Int × Int)} (h : zv_not (a ++ b)) : zv_not a := fun c hc => h c (List.mem_append_left b hc)
theorem zv_not.r {a b : List (Int × Int)} (h : zv_not (a ++ b)) : zv_not b := fun c hc => h c (List.mem_append_right a hc)
theorem zl_am1 : ∀ L : List (Int × Int), zl_am L 1 = 1
  | [] => rfl
  | c :: cs => by
    show zl_am cs (if c = (105, 116) then 1 else 1) = 1
    rw [ite_self]
    exact zl_am1 cs
theorem zl_am01 : ∀ (L : List (Int × Int)), (zl_am L 0 = 0 ∧ zv_not L) ∨ zl_am L 0 = 1
  | [] => Or.inl ⟨rfl, fun c hc => (by cases hc)⟩
  | c :: cs => by
    by_cases e : c = (105, 116)
    · refine Or.inr ?_
      show zl_am cs (if c = (105, 116) then 1 else 0) = 1
      rw [if_pos e]
      exact zl_am1 cs
    · have z : zl_am (c :: cs) 0 = zl_am cs 0 := by
        show zl_am cs (if c = (105, 116) then 1 else 0) = _
        rw [if_neg e]
      rw [z]
      rcases zl_am01 cs with ⟨h1, h2⟩ | h1
      · refine Or.inl ⟨h1, fun d hd => ?_⟩
        rcases List.mem_cons.mp hd with q | q
        · rw [q]
          exact e
        · exact h2 d q
      · exact Or.inr h1
theorem zl_amR1 : ∀ R : zl_L, zl_amR R 1 = 1
  | [] => rfl
  | k :: R => by
    show zl_amR R (zl_am k.2.2 (zl_am k.2.1 1)) = 1
    rw [zl_am1, zl_am1]
    exact zl_amR1 R
theorem zl_amRn : ∀ R : zl_L, zl_amR R 0 = 0 → ∀ k ∈ R, zv_not k.2.1 ∧ zv_not k.2.2
  | [], _, k, hk => (by cases hk)
  | y :: R, h, k, hk => by
    have h2 : zl_amR R (zl_am y.2.2 (zl_am y.2.1 0)) = 0 := h
    rcases zl_am01 y.2.1 with ⟨e1, n1⟩ | e1
    · rw [e1] at h2
      rcases zl_am01 y.2.2 with ⟨e2, n2⟩ | e2
      · rw [e2] at h2
        rcases List.mem_cons.mp hk with q | q
        · rw [q]
          exact ⟨n1, n2⟩
        · exact zl_amRn R h2 k q
      · rw [e2, zl_amR1] at h2
        exact absurd h2 (by decide)
    · rw [e1, zl_am1, zl_amR1] at h2
      exact absurd h2 (by decide)
theorem zl_amRv : ∀ R : zl_L, zl_amR R 0 = 0 ∨ zl_amR R 0 = 1
  | [] => Or.inl rfl
  | y :: R => by
    show zl_amR R (zl_am y.2.2 (zl_am y.2.1 0)) = 0 ∨ zl_amR R (zl_am y.2.2 (zl_am y.2.1 0)) = 1
    rcases zl_am01 y.2.1 with ⟨e1, -⟩ | e1
    · rw [e1]
      rcases zl_am01 y.2.2 with ⟨e2, -⟩ | e2
      · rw [e2]
        exact zl_amRv R
      · rw [e2]
        exact Or.inr (zl_amR1 R)
    · rw [e1, zl_am1]
      exact Or.inr (zl_amR1 R)
section Same
variable {a2 bq bc bf bl b3 b4 b5 : Nat} {n lo hi x : Int} {V V' : Int → Int} {v0 v1 : fx_U}
theorem zv_bE2 (hr : zv_rt a2 bq bc bf V v0) (hr' : zv_rt a2 bq bc bf V' v1) (hV : ∀ x : Int, x ≠ 116 → V x = V' x) {m : Nat} {L : List (Int × Int)} (h : zv_E m L) : zv_not L → ∃ r : Option Int, zv_rl a2 bq bc v0 L r ∧ zv_rl a2 bq bc v1 L r := by
  refine h (fun _ L => zv_not L → ∃ r : Option Int, zv_rl a2 bq bc v0 L r ∧ zv_rl a2 bq bc v1 L r) ?_ ?_ ?_
  · intro m v hm hv _
    exact ⟨_, zv_d1 hr (Or.inl ⟨rfl, hv⟩), zv_d1 hr' (Or.inl ⟨rfl, hv⟩)⟩
  · intro m x hm hx hn
    have nx : x ≠ 116 := fun e => hn (105, x) (List.mem_singleton.mpr rfl) (by rw [e])
    have d1 := zv_d1 hr (c := 105) (x := x) (Or.inr ⟨rfl, hx⟩)
    have d2 := zv_d1 hr' (c := 105) (x := x) (Or.inr ⟨rfl, hx⟩)
    rw [← hV x nx] at d2
    exact ⟨_, d1, d2⟩
  · intro m p q a b c iha ihb hk h1 h2 hn
    obtain ⟨ra, ca, da⟩ := iha hn.l.l
    obtain ⟨rb, cb, db⟩ := ihb hn.l.r
    exact ⟨_, zv_d2 hr (by omega) ca cb, zv_d2 hr' (by omega) da db⟩
theorem zv_bC2 (hr : zv_rt a2 bq bc bf V v0) (hr' : zv_rt a2 bq bc bf V' v1) (hV : ∀ x : Int, x ≠ 116 → V x = V' x) {L : List (Int × Int)} (h : zv_C L) : zv_not L → ∃ r : Option Int, zv_01 r ∧ zv_rl a2 bq bc v0 L r ∧ zv_rl a2 bq bc v1 L r := by
  refine h (fun L => zv_not L → ∃ r : Option Int, zv_01 r ∧ zv_rl a2 bq bc v0 L r ∧ zv_rl a2 bq bc v1 L r) ?_ ?_ ?_
  · intro p q a b c ha hb hk h1 h2 hn
    obtain ⟨ra, ca, da⟩ := zv_bE2 hr hr' hV ha hn.l.l
    obtain ⟨rb, cb, db⟩ := zv_bE2 hr hr' hV hb hn.l.r
    refine ⟨_, fun v hv => ?_, zv_d2 hr (by omega) ca cb, zv_d2 hr' (by omega) da db⟩
    cases ra with
    | none => cases hv
    | some x =>
      cases rb with
      | none => cases hv
      | some y => exact zv_rk01 hk hv
  · intro a iha hn
    obtain ⟨ra, oa, ca, da⟩ := iha hn.l
    refine ⟨_, fun v hv => ?_, zv_dN hr oa ca, zv_dN hr' oa da⟩
    cases ra with
    | none => cases hv
    | some x =>
      have z : (if x = 0 then (1 : Int) else 0) = v := Option.some.inj hv
      rw [← z]
      by_cases q : x = 0
      · rw [if_pos q]
        exact Or.inr rfl
      · rw [if_neg q]
        exact Or.inl rfl
  · intro a b c iha ihb hk hn
    obtain ⟨ra, oa, ca, da⟩ := iha hn.l
    obtain ⟨rb, ob, cb, db⟩ := ihb (fun d hd => hn.r d (List.mem_cons_of_mem _ hd))
    refine ⟨_, fun v hv => ?_, zv_dJ hr oa hk ca cb, zv_dJ hr' oa hk da db⟩
    cases ra with
    | none => cases hv
    | some x =>
      have z : (if _ then some x else rb) = some v := hv
      split at z
      · exact oa v (z ▸ rfl)
      · exact ob v z
/-- the clauses one after another, in two minutes -/
theorem zv_byL2 (hr : zv_rt a2 bq bc bf V v0) (hr' : zv_rt a2 bq bc bf V' v1) (hV : ∀ x : Int, x ≠ 116 → V x = V' x) (hB : zv_ra a2 bq bc bl b3 b4 b5 v0) (hB' : zv_ra a2 bq bc bl b3 b4 b5 v1) (hs : ∀ j : Nat, v1 b3 j = v0 b3 j ∧ v1 b4 j = v0 b4 j ∧ v1 b5 j = v0 b5 j) : ∀ (R : zl_L) (j F : Nat) (w z : fx_U), zv_fr bq v0 w → zv_fr bq v1 z → zv_Lr bl b3 b4 b5 bc v0 j R → zv_Lr bl b3 b4 b5 bc v1 j R → zv_LE R → (∀ k ∈ R, zv_not k.2.1 ∧ zv_not k.2.2) → n = (j : Int) + (R.length : Int) → R.length < F → (kL_X12_byLaw_3 n a2 x b4 b5 b3 lo hi F (j : Int) w).1 = (kL_X12_byLaw_3 n a2 x b4 b5 b3 lo hi F (j : Int) z).1 := by
  obtain ⟨⟨r22, r27, r21⟩, o1, o3, o4, o5⟩ := hB
  obtain ⟨⟨p22, p27, p21⟩, -⟩ := hB'
  intro R
  induction R with
  | nil =>
    intro j F w z hw hz _ _ _ _ hn h1
    obtain ⟨G, rfl⟩ : ∃ G : Nat, F = G + 1 := ⟨F - 1, by omega⟩
    have l0 : ((([] : zl_L).length : Nat) : Int) = 0 := rfl
    have nj : ¬ (j : Int) < n := by omega
    show (kB_X12_byLaw_3 (kL_X12_byLaw_3 n a2 x b4 b5 b3 lo hi G) n a2 x b4 b5 b3 lo hi (j : Int) w).1 = (kB_X12_byLaw_3 (kL_X12_byLaw_3 n a2 x b4 b5 b3 lo hi G) n a2 x b4 b5 b3 lo hi (j : Int) z).1
    unfold kB_X12_byLaw_3
    simp only [if_neg nj]
  | cons y R ih =>
    intro j F w z hw hz hLr hLs hE hN hn h1
    rw [List.length_cons] at hn h1
    obtain ⟨G, rfl⟩ : ∃ G : Nat, F = G + 1 := ⟨F - 1, by omega⟩
    obtain ⟨⟨d1, d2, d3, d4, d5⟩, d6⟩ := hLr
    obtain ⟨⟨e1, e2, e3, e4, e5⟩, e6⟩ := hLs
    obtain ⟨eE, eC⟩ := hE y (List.mem_cons_self ..)
    obtain ⟨n1, n2⟩ := hN y (List.mem_cons_self ..)
    obtain ⟨s3, s4, s5⟩ := hs j
    rw [s3] at e2 e3
    rw [s4] at e2 e4 e5
    rw [s5] at e4
    have w22 : w a2 22 = (bl : Int) := (hw a2 hr.1.2.1 22).trans r22
    have z22 : z a2 22 = (bl : Int) := (hz a2 hr.1.2.1 22).trans p22
    have wl : w bl j = y.1 := (hw bl o1 j).trans d1
    have zl : z bl j = y.1 := (hz bl o1 j).trans e1
    have w4 : w b4 j = v0 b4 j := hw b4 o4 j
    have w5 : w b5 j = v0 b5 j := hw b5 o5 j
    have z4 : z b4 j = v0 b4 j := (hz b4 o4 j).trans s4
    have z5 : z b5 j = v0 b5 j := (hz b5 o5 j).trans s5
    have nj : (j : Int) < n := by omega
    have jn : (j : Int) + 1 = ((j + 1 : Nat) : Int) := by omega
    have nxt : ∀ w z : fx_U, zv_fr bq v0 w → zv_fr bq v1 z → (kL_X12_byLaw_3 n a2 x b4 b5 b3 lo hi G ((j : Int) + 1) w).1 = (kL_X12_byLaw_3 n a2 x b4 b5 b3 lo hi G ((j : Int) + 1) z).1 := fun w z hw hz => by
      rw [jn]
      exact ih (j + 1) G w z hw hz d6 e6 (fun q hq => hE q (List.mem_cons_of_mem y hq)) (fun q hq => hN q (List.mem_cons_of_mem y hq)) (by omega) (by omega)
    show (kB_X12_byLaw_3 (kL_X12_byLaw_3 n a2 x b4 b5 b3 lo hi G) n a2 x b4 b5 b3 lo hi (j : Int) w).1 = (kB_X12_byLaw_3 (kL_X12_byLaw_3 n a2 x b4 b5 b3 lo hi G) n a2 x b4 b5 b3 lo hi (j : Int) z).1
    unfold kB_X12_byLaw_3 kJ_X12_byLaw_91
    simp only [fz_lt, fz_lr, fz_lc, if_pos nj, w22, z22, Int.toNat_natCast, wl, zl, w4, w5, z4, z5]
    by_cases g : y.1 = x
    · obtain ⟨r, -, ca, cb⟩ := zv_bC2 (hr.mv hw) (hr'.mv hz) hV eC n2
      obtain ⟨y1, a1, a3⟩ := zv_com (hr.mv hw) ((hw a2 hr.1.2.1 27).trans r27) ((hw a2 hr.1.2.1 21).trans r21) (zv_cem hr hw (by omega) d5) (by omega) d4.1 d4.2 eC.pos ca
      obtain ⟨y2, c1, c3⟩ := zv_com (hr'.mv hz) ((hz a2 hr.1.2.1 27).trans p27) ((hz a2 hr.1.2.1 21).trans p21) (zv_cem hr' hz (by omega) e5) (by omega) e4.1 e4.2 eC.pos cb
      simp only [if_pos g, a1, c1]
      by_cases g2 : r.getD 0 = 1
      · have fw := hw.tr a3
        have fz := hz.tr c3
        have x3 : y1 b3 j = v0 b3 j := fw b3 o3 j
        have x3' : y2 b3 j = v0 b3 j := (fz b3 o3 j).trans s3
        obtain ⟨r2, ca2, cb2⟩ := zv_bE2 (hr.mv fw) (hr'.mv fz) hV eE n1
        obtain ⟨q1, b1, -⟩ := zv_com (hr.mv fw) ((fw a2 hr.1.2.1 27).trans r27) ((fw a2 hr.1.2.1 21).trans r21) (zv_cem hr fw d2.1 d3) d2.1 d2.2 (by omega) eE.pos ca2
        obtain ⟨q2, b2, -⟩ := zv_com (hr'.mv fz) ((fz a2 hr.1.2.1 27).trans p27) ((fz a2 hr.1.2.1 21).trans p21) (zv_cem hr' fz e2.1 e3) e2.1 e2.2 (by omega) eE.pos cb2
        simp only [if_pos g2, x3, x3', b1, b2]
        by_cases g3 : r2.getD 0 < lo
        · simp only [if_pos g3]
        · by_cases g4 : hi < r2.getD 0
          · simp only [if_neg g3, if_pos g4]
          · simp only [if_neg g3, if_neg g4]
      · simp only [if_neg g2]
        exact nxt y1 y2 (hw.tr a3) (hz.tr c3)
    · simp only [if_neg g]
      exact nxt w z hw hz
end Same
/-- what is asked does not hang on the minute -/
theorem zp_Ai {a2 bn bq bc bf bcl bcf bch bct : Nat} {D x lo hi i t p : Int} {R : zl_L} {v : fx_U} (hq : zv_aq a2 bn bq bc bf bcl bcf bch bct) (hr : zv_hr a2 bn bq bc bf bcl bcf bch bct D R v) (hE : zv_LE R) (hR : R.length ≤ 16) (hm : zl_amR R 0 = 0) (i0 : 0 ≤ i) : zp_A v a2 x lo hi i t p = zp_A v a2 x lo hi i 0 p := by
  obtain ⟨q0, ⟨m1, m2⟩, ⟨m3, m4⟩, ⟨m5, m6⟩, ⟨m7, m8⟩, ⟨m9, m10⟩, ⟨m11, m12⟩, m13, m14⟩ := hq
  obtain ⟨⟨r13, r21, r22, r23, r24, r25, r27, r28⟩, ⟨e0, e1⟩, hM⟩ := hr
  obtain ⟨w, f1, f2, f3⟩ := zv_feel (t := t) (a := p) (r := 0) ⟨m2, m4⟩ r28 e0 e1 (Or.inl rfl) i0
  obtain ⟨z, g1, g2, g3⟩ := zv_feel (t := 0) (a := p) (r := 0) ⟨m2, m4⟩ r28 e0 e1 (Or.inl rfl) i0
  have rt : ∀ (y : fx_U) (V : Int → Int), (∀ b : Nat, b ≠ bf → ∀ j : Nat, y b j = v b j) → (∀ x : Int, zl_fo x ≠ -1 → y bf (zl_fo x).toNat = V x) → zv_rt a2 bq bc bf V y := fun y V h1 h2 => ⟨⟨m5, m1, q0⟩, (h1 a2 m2 28).trans r28, h2⟩
  have ra : ∀ y : fx_U, (∀ b : Nat, b ≠ bf → ∀ j : Nat, y b j = v b j) → zv_ra a2 bq bc bcl bcf bch bct y := fun y h1 => ⟨⟨(h1 a2 m2 22).trans r22, (h1 a2 m2 27).trans r27, (h1 a2 m2 21).trans r21⟩, m7, m9, m11, m13⟩
  have lr : ∀ y : fx_U, (∀ b : Nat, b ≠ bf → ∀ j : Nat, y b j = v b j) → zv_Lr bcl bcf bch bct bc y 0 R := fun y h1 => zv_Lr_mv (fun b hb j => by
    rcases hb with e | e | e | e | e <;> rw [e]
    · exact h1 bc m6 j
    · exact h1 bcl m8 j
    · exact h1 bcf m10 j
    · exact h1 bch m12 j
    · exact h1 bct m14 j) R 0 hM
  have bL : ∀ y : fx_U, (∀ b : Nat, b ≠ bf → ∀ j : Nat, y b j = v b j) → f_X12_byLaw y a2 x lo hi = kL_X12_byLaw_3 (R.length : Int) a2 x bch bct bcf lo hi 17 0 y := fun y h1 => by
    unfold f_X12_byLaw
    simp only [fz_lr, fz_lt, (h1 a2 m2 21).trans r21, (h1 a2 m2 23).trans r23, (h1 a2 m2 24).trans r24, (h1 a2 m2 25).trans r25, (h1 a2 m2 13).trans r13, Int.toNat_natCast, show Int.toNat (16 - 0) + 1 = 17 from rfl]
  unfold zp_A
  rw [f1, g1, bL w f2, bL z g2]
  have res := zv_byL2 (x := x) (lo := lo) (hi := hi) (n := (R.length : Int)) (rt w _ f2 f3) (rt z _ g2 g3) (fun q hq => by
      unfold zv_V
      by_cases c1 : q = 97
      · rw [if_pos c1, if_pos c1]
      · by_cases c2 : q = 99
        · rw [if_neg c1, if_neg c1, if_pos c2, if_pos c2]
        · by_cases c3 : q = 104
          · rw [if_neg c1, if_neg c1, if_neg c2, if_neg c2, if_pos c3, if_pos c3]
          · by_cases c4 : q = 105
            · rw [if_neg c1, if_neg c1, if_neg c2, if_neg c2, if_neg c3, if_neg c3, if_pos c4, if_pos c4]
            · by_cases c5 : q = 107
              · rw [if_neg c1, if_neg c1, if_neg c2, if_neg c2, if_neg c3, if_neg c3, if_neg c4, if_neg c4, if_pos c5, if_pos c5]
              · by_cases c6 : q = 110
                · rw [if_neg c1, if_neg c1, if_neg c2, if_neg c2, if_neg c3, if_neg c3, if_neg c4, if_neg c4, if_neg c5, if_neg c5, if_pos c6, if_pos c6]
                · by_cases c7 : q = 114
                  · rw [if_neg c1, if_neg c1, if_neg c2, if_neg c2, if_neg c3, if_neg c3, if_neg c4, if_neg c4, if_neg c5, if_neg c5, if_neg c6, if_neg c6, if_pos c7, if_pos c7]
                  · rw [if_neg c1, if_neg c1, if_neg c2, if_neg c2, if_neg c3, if_neg c3, if_neg c4, if_neg c4, if_neg c5, if_neg c5, if_neg c6, if_neg c6, if_neg c7, if_neg c7, if_neg hq, if_neg hq]) (ra w f2) (ra z g2) (fun j => ⟨(g2 bcf m10 j).trans (f2 bcf m10 j).symm, (g2 bch m12 j).trans (f2 bch m12 j).symm, (g2 bct m14 j).trans (f2 bct m14 j).symm⟩) R 0 17 w z (fun _ _ _ => rfl) (fun _ _ _ => rfl) (lr w f2) (lr z g2) hE (zl_amRn R hm) (by show (R.length : Int) = ((0 : Nat) : Int) + (R.length : Int); omega) (by omega)
  rw [show ((0 : Nat) : Int) = 0 from rfl] at res
  exact res
