/-! WHAT IS ASKED OF THE LAW: both answer alike -/
section Askb
variable {la bk sg vl l5 l6 l7 a2 bq bc bf bl b3 b4 b5 : Nat} {N n lo hi x : Int} {V : Int → Int} {u0 v0 : fx_U}
/-- one run on both sides -/
theorem zv_two {w z : fx_U} {s f x2 : Int} {m : Nat} {L : List (Int × Int)} {Q : Option Int → Prop} (hc : zv_ct la bk sg vl N V w) (h8 : w la 8 = (bk : Int)) (hN : N ≤ 240) (hm : m ≤ 32) (hcd : zl_cd sg vl w s (L ++ [(59, 0)])) (h0 : 0 ≤ s) (h1 : s + (L.length : Int) < N) (hr : zv_rt a2 bq bc bf V z) (h27 : z a2 27 = (bq : Int)) (h21 : z a2 21 = (bc : Int)) (hce : zl_ce bc z f L) (f0 : 0 ≤ f) (f1 : x2 = f + (L.length : Int)) (f2 : x2 ≤ 260) (hL : 0 < L.length) (hb : ∀ u1 : fx_U, zv_ct la bk sg vl N V u1 → ∃ r : Option Int, Q r ∧ zv_cl la bk sg vl N u1 m L r ∧ zv_rl a2 bq bc z L r) : ∃ (r : Option Int) (y1 y2 : fx_U), Q r ∧ f_X3_run w la s = (r.getD 0, y1) ∧ zv_fe la bk w y1 ∧ f_X12_comesTo z a2 f x2 = (r.getD 0, y2) ∧ zv_fr bq z y2 := by
  have fu : zv_fe la bk w (fx_pt (fx_pt w la 10 0) la 9 0) := (zv_fe.p9 hc.1.1.2 (Or.inr rfl)).tr (zv_fe.p9 hc.1.1.2 (Or.inl rfl))
  obtain ⟨r, q, c1, c2⟩ := hb _ (hc.mv fu)
  obtain ⟨y1, a1, a3⟩ := zv_run hc h8 hN hm hcd h0 h1 c1
  obtain ⟨y2, b1, b2⟩ := zv_com hr h27 h21 hce f0 f1 f2 hL c2
  exact ⟨r, y1, y2, q, a1, a3, b1, b2⟩
def zv_ca (la bk l5 l6 l7 : Nat) (n : Int) (u0 : fx_U) : Prop := (u0 la 0 = n ∧ u0 la 5 = (l5 : Int) ∧ u0 la 6 = (l6 : Int) ∧ u0 la 7 = (l7 : Int) ∧ u0 la 8 = (bk : Int)) ∧ (l5 ≠ la ∧ l5 ≠ bk) ∧ (l6 ≠ la ∧ l6 ≠ bk) ∧ (l7 ≠ la ∧ l7 ≠ bk)
def zv_ra (a2 bq bc bl b3 b4 b5 : Nat) (v0 : fx_U) : Prop := (v0 a2 22 = (bl : Int) ∧ v0 a2 27 = (bq : Int) ∧ v0 a2 21 = (bc : Int)) ∧ bl ≠ bq ∧ b3 ≠ bq ∧ b4 ≠ bq ∧ b5 ≠ bq
theorem zv_held {w : fx_U} {v : Int} (h : lo ≤ hi) : f_X11_heldIn w v lo hi = if v < lo then lo else if hi < v then hi else v := by
  unfold f_X11_heldIn f_J9_min_7cf53 f_J9_max_7cf53
  simp only [fz_lt]
  split <;> split <;> first | (split <;> omega) | omega
theorem zv_askL (hc : zv_ct la bk sg vl N V u0) (hN : N ≤ 240) (hA : zv_ca la bk l5 l6 l7 n u0) (hr : zv_rt a2 bq bc bf V v0) (hB : zv_ra a2 bq bc bl b3 b4 b5 v0) (hlo : lo ≤ hi) (hhi : ∀ w : fx_U, f_X3_highest w x = hi) : ∀ (R : List (Int × List (Int × Int) × List (Int × Int))) (j F1 F2 : Nat) (w z : fx_U), zv_fe la bk u0 w → zv_fr bq v0 z → zv_Lc sg vl l5 l6 l7 N u0 j R → zv_Lr bl b3 b4 b5 bc v0 j R → zv_LE R → n = (j : Int) + (R.length : Int) → R.length < F1 → R.length < F2 → (kL_X3_ask_44 la x lo F1 (j : Int) w).1 = (kL_X12_byLaw_3 n a2 x b4 b5 b3 lo hi F2 (j : Int) z).1 ∧ zv_fe la bk u0 (kL_X3_ask_44 la x lo F1 (j : Int) w).2 ∧ zv_fr bq v0 (kL_X12_byLaw_3 n a2 x b4 b5 b3 lo hi F2 (j : Int) z).2 := by
  obtain ⟨⟨a0, a5, a6, a7, a8⟩, ⟨n5, m5⟩, ⟨n6, m6⟩, n7, m7⟩ := hA
  obtain ⟨⟨r22, r27, r21⟩, o1, o3, o4, o5⟩ := hB
  intro R
  induction R with
  | nil =>
    intro j F1 F2 w z hw hz _ _ _ hn h1 h2
    obtain ⟨G1, rfl⟩ : ∃ G : Nat, F1 = G + 1 := ⟨F1 - 1, by omega⟩
    obtain ⟨G2, rfl⟩ : ∃ G : Nat, F2 = G + 1 := ⟨F2 - 1, by omega⟩
    have l0 : ((([] : List (Int × List (Int × Int) × List (Int × Int))).length : Nat) : Int) = 0 := rfl
    have w0 : w la 0 = n := (hw.2 0 (by decide) (by decide)).trans a0
    have nj : ¬ (j : Int) < n := by omega
    have e1 : kL_X3_ask_44 la x lo (G1 + 1) (j : Int) w = (lo, w) := by
      show kB_X3_ask_44 (kL_X3_ask_44 la x lo G1) la x lo (j : Int) w = _
      unfold kB_X3_ask_44
      simp only [fz_lt, w0, if_neg nj]
    have e2 : kL_X12_byLaw_3 n a2 x b4 b5 b3 lo hi (G2 + 1) (j : Int) z = (lo, z) := by
      show kB_X12_byLaw_3 (kL_X12_byLaw_3 n a2 x b4 b5 b3 lo hi G2) n a2 x b4 b5 b3 lo hi (j : Int) z = _
      unfold kB_X12_byLaw_3
      simp only [if_neg nj]
    rw [e1, e2]
    exact ⟨rfl, hw, hz⟩
  | cons y R ih =>
    intro j F1 F2 w z hw hz hLc hLr hE hn h1 h2
    rw [List.length_cons] at hn h1 h2
    obtain ⟨G1, rfl⟩ : ∃ G : Nat, F1 = G + 1 := ⟨F1 - 1, by omega⟩
    obtain ⟨G2, rfl⟩ : ∃ G : Nat, F2 = G + 1 := ⟨F2 - 1, by omega⟩
    obtain ⟨⟨c1, c2, c3, c4, c5⟩, c6⟩ := hLc
    obtain ⟨⟨d1, d2, d3, d4, d5⟩, d6⟩ := hLr
    obtain ⟨eE, eC⟩ := hE y (List.mem_cons_self ..)
    have w0 : w la 0 = n := (hw.2 0 (by decide) (by decide)).trans a0
    have w5 : w la 5 = (l5 : Int) := (hw.2 5 (by decide) (by decide)).trans a5
    have w7 : w la 7 = (l7 : Int) := (hw.2 7 (by decide) (by decide)).trans a7
    have z22 : z a2 22 = (bl : Int) := (hz a2 hr.1.2.1 22).trans r22
    have wl : w l5 j = y.1 := (hw.1 l5 n5 m5 j).trans c1
    have zl : z bl j = y.1 := (hz bl o1 j).trans d1
    have nj : (j : Int) < n := by omega
    have eK1 : kL_X3_ask_44 la x lo (G1 + 1) (j : Int) w = kB_X3_ask_44 (kL_X3_ask_44 la x lo G1) la x lo (j : Int) w := rfl
    have eK2 : kL_X12_byLaw_3 n a2 x b4 b5 b3 lo hi (G2 + 1) (j : Int) z = kB_X12_byLaw_3 (kL_X12_byLaw_3 n a2 x b4 b5 b3 lo hi G2) n a2 x b4 b5 b3 lo hi (j : Int) z := rfl
    have jn : (j : Int) + 1 = ((j + 1 : Nat) : Int) := by omega
    have nxt : ∀ w z : fx_U, zv_fe la bk u0 w → zv_fr bq v0 z → (kL_X3_ask_44 la x lo G1 ((j : Int) + 1) w).1 = (kL_X12_byLaw_3 n a2 x b4 b5 b3 lo hi G2 ((j : Int) + 1) z).1 ∧ zv_fe la bk u0 (kL_X3_ask_44 la x lo G1 ((j : Int) + 1) w).2 ∧ zv_fr bq v0 (kL_X12_byLaw_3 n a2 x b4 b5 b3 lo hi G2 ((j : Int) + 1) z).2 := fun w z hw hz => by
      rw [jn]
      exact ih (j + 1) G1 G2 w z hw hz c6 d6 (fun q hq => hE q (List.mem_cons_of_mem y hq)) (by omega) (by omega) (by omega)
    by_cases g : y.1 = x
    · have z4 : z b4 j = v0 b4 j := hz b4 o4 j
      have z5 : z b5 j = v0 b5 j := hz b5 o5 j
      have wj : w l7 j = u0 l7 j := hw.1 l7 n7 m7 j
      obtain ⟨r, y1, y2, q1, q2, q3, q4, q5⟩ := zv_two (Q := zv_01) (m := 16) (s := u0 l7 j) (f := v0 b4 j) (x2 := v0 b5 j) (L := y.2.2) (hc.mv hw) ((hw.2 8 (by decide) (by decide)).trans a8) hN (by decide) (zv_cdm hc hw c4.1 c5) c4.1 c4.2 (hr.mv hz) ((hz a2 hr.1.2.1 27).trans r27) ((hz a2 hr.1.2.1 21).trans r21) (zv_cem hr hz (by omega) d5) (by omega) d4.1 d4.2 eC.pos (fun u1 h => zv_bC h (hr.mv hz) eC)
      have k01 : r.getD 0 = 0 ∨ r.getD 0 = 1 := by
        cases r with
        | none => exact Or.inl rfl
        | some v => exact q1 v rfl
      obtain ⟨k, hk⟩ : ∃ k : Int, k = r.getD 0 := ⟨_, rfl⟩
      rw [← hk] at q2 q4 k01
      have fw := hw.tr q3
      have fz := hz.tr q5
      by_cases g2 : k = 1
      · have k0 : ¬ k = 0 := by omega
        have v6 : y1 la 6 = (l6 : Int) := (fw.2 6 (by decide) (by decide)).trans a6
        have v6j : y1 l6 j = u0 l6 j := fw.1 l6 n6 m6 j
        have v3j : y2 b3 j = v0 b3 j := fz b3 o3 j
        obtain ⟨r2, p1, p2, -, t2, t3, t4, t5⟩ := zv_two (Q := fun _ => True) (m := 16) (s := u0 l6 j) (f := v0 b3 j) (x2 := v0 b4 j) (L := y.2.1) (hc.mv fw) ((fw.2 8 (by decide) (by decide)).trans a8) hN (by decide) (zv_cdm hc fw c2.1 c3) c2.1 c2.2 (hr.mv fz) ((fz a2 hr.1.2.1 27).trans r27) ((fz a2 hr.1.2.1 21).trans r21) (zv_cem hr fz d2.1 d3) d2.1 d2.2 (by omega) eE.pos (fun u1 h => by
          obtain ⟨r, ca, da⟩ := zv_bE h (hr.mv fz) eE
          exact ⟨r, True.intro, ca, da⟩)
        have e1 : kL_X3_ask_44 la x lo (G1 + 1) (j : Int) w = (if r2.getD 0 < lo then lo else if hi < r2.getD 0 then hi else r2.getD 0, p1) := by
          rw [eK1]
          unfold kB_X3_ask_44
          simp only [fz_lt, fz_lr, fz_lc, w0, if_pos nj, w5, w7, Int.toNat_natCast, wl, if_pos g, wj, q2, if_neg k0, v6, v6j, t2, hhi, zv_held hlo]
        have e2 : kL_X12_byLaw_3 n a2 x b4 b5 b3 lo hi (G2 + 1) (j : Int) z = (if r2.getD 0 < lo then lo else if hi < r2.getD 0 then hi else r2.getD 0, p2) := by
          rw [eK2]
          unfold kB_X12_byLaw_3
          simp only [fz_lt, fz_lr, fz_lc, if_pos nj, z22, Int.toNat_natCast, zl, if_pos g, z4, z5, q4, if_pos g2, v3j, t4]
          split
          · rfl
          · split <;> rfl
        rw [e1, e2]
        exact ⟨rfl, fw.tr t3, fz.tr t5⟩
      · have k0 : k = 0 := by omega
        have e1 : kL_X3_ask_44 la x lo (G1 + 1) (j : Int) w = kL_X3_ask_44 la x lo G1 ((j : Int) + 1) y1 := by
          rw [eK1]
          unfold kB_X3_ask_44 kJ_X3_ask_99
          simp only [fz_lt, fz_lr, fz_lc, w0, if_pos nj, w5, w7, Int.toNat_natCast, wl, if_pos g, wj, q2, if_pos k0]
        have e2 : kL_X12_byLaw_3 n a2 x b4 b5 b3 lo hi (G2 + 1) (j : Int) z = kL_X12_byLaw_3 n a2 x b4 b5 b3 lo hi G2 ((j : Int) + 1) y2 := by
          rw [eK2]
          unfold kB_X12_byLaw_3 kJ_X12_byLaw_91
          simp only [fz_lt, fz_lr, fz_lc, if_pos nj, z22, Int.toNat_natCast, zl, if_pos g, z4, z5, q4, if_neg g2]
        rw [e1, e2]
        exact nxt y1 y2 fw fz
    · have e1 : kL_X3_ask_44 la x lo (G1 + 1) (j : Int) w = kL_X3_ask_44 la x lo G1 ((j : Int) + 1) w := by
        rw [eK1]
        unfold kB_X3_ask_44 kJ_X3_ask_99
        simp only [fz_lt, fz_lr, w0, if_pos nj, w5, Int.toNat_natCast, wl, if_neg g]
      have e2 : kL_X12_byLaw_3 n a2 x b4 b5 b3 lo hi (G2 + 1) (j : Int) z = kL_X12_byLaw_3 n a2 x b4 b5 b3 lo hi G2 ((j : Int) + 1) z := by
        rw [eK2]
        unfold kB_X12_byLaw_3 kJ_X12_byLaw_91
        simp only [fz_lt, fz_lr, if_pos nj, z22, Int.toNat_natCast, zl, if_neg g]
      rw [e1, e2]
      exact nxt w z hw hz
end Askb
