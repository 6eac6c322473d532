/-! WHAT THE LAW COMES TO: a run, and what is asked -/
section Ask
variable {la bk sg vl a2 bq bc bf : Nat} {N : Int} {V : Int → Int} {u0 v0 : fx_U}
theorem zv_ct.mv {w : fx_U} (hc : zv_ct la bk sg vl N V u0) (hw : zv_fe la bk u0 w) : zv_ct la bk sg vl N V w := ⟨hc.1, ⟨(hw.2 1 (by decide) (by decide)).trans hc.2.1.1, (hw.2 3 (by decide) (by decide)).trans hc.2.1.2.1, (hw.2 4 (by decide) (by decide)).trans hc.2.1.2.2⟩, fun w2 h2 x hx => hc.2.2 w2 (hw.tr h2) x hx⟩
theorem zv_cdm {w : fx_U} {s : Int} {L : List (Int × Int)} (hc : zv_ct la bk sg vl N V u0) (hw : zv_fe la bk u0 w) (h0 : 0 ≤ s) (h : zl_cd sg vl u0 s L) : zl_cd sg vl w s L := zl_cd_keep (e := s + (L.length : Int)) (fun i _ => ⟨hw.1 sg hc.1.2.1.1 hc.1.2.1.2 i, hw.1 vl hc.1.2.2.1 hc.1.2.2.2 i⟩) L s h0 (Int.le_refl _) h
/-- a run in the class -/
theorem zv_run {w : fx_U} {s : Int} {m : Nat} {L : List (Int × Int)} {r : Option Int} (hc : zv_ct la bk sg vl N V w) (h8 : w la 8 = (bk : Int)) (hN : N ≤ 240) (hm : m ≤ 32) (hcd : zl_cd sg vl w s (L ++ [(59, 0)])) (h0 : 0 ≤ s) (h1 : s + (L.length : Int) < N) (cl : zv_cl la bk sg vl N (fx_pt (fx_pt w la 10 0) la 9 0) m L r) : ∃ y : fx_U, f_X3_run w la s = (r.getD 0, y) ∧ zv_fe la bk w y := by
  obtain ⟨u1, hu1⟩ : ∃ u1 : fx_U, u1 = fx_pt (fx_pt w la 10 0) la 9 0 := ⟨_, rfl⟩
  rw [← hu1] at cl
  have f1 : zv_fe la bk w u1 := by
    rw [hu1]
    exact (zv_fe.p9 hc.1.1.2 (Or.inr rfl)).tr (zv_fe.p9 hc.1.1.2 (Or.inl rfl))
  have c1 := hc.mv f1
  have s1 : zv_cs la bk u1 [] := by
    rw [hu1]
    exact ⟨⟨(zz_pj (by decide)).trans ((zz_pj (by decide)).trans h8), zz_ps.trans rfl⟩, (zz_pj (by decide)).trans zz_ps, True.intro⟩
  have d1 := zv_cdm hc f1 h0 hcd
  obtain ⟨d2, d3⟩ := zl_cd_split _ _ s d1
  have eR : f_X3_run w la s = kL_X3_run_14 la 241 s 0 u1 := by
    unfold f_X3_run
    simp only [fz_lr, fz_ls, ← hu1]
    rfl
  have res := cl 241 s 0 u1 [] d2 h0 (by omega) zv_fe.rf s1 (by show 0 + m ≤ 32; omega) (Int.le_refl 0) (by omega) (by omega)
  rw [eR]
  cases r with
  | none =>
    obtain ⟨y, b1, b2⟩ := res.2 rfl
    exact ⟨y, b2, f1.tr b1⟩
  | some v =>
    obtain ⟨w2, j, b1, b2, b3, b4⟩ := res.1 v rfl
    obtain ⟨y, p1, p2, p3⟩ := zv_pop hc.1.1.2 b3
    refine ⟨y, ?_, f1.tr (b2.tr p3)⟩
    obtain ⟨⟨g3, g4⟩, g5, g6⟩ := zv_sg c1 b2 (s + (L.length : Int)).toNat
    have x1 : w2 la 1 = N := (c1.mv b2).2.1.1
    have e59 : w2 sg (s + (L.length : Int)).toNat = 59 := g5.trans d3.1.1
    obtain ⟨G, hG⟩ : ∃ G : Nat, 241 - j = G + 1 := ⟨240 - j, by omega⟩
    have e69 : kJ_X3_run_69 w2 la = (v, y) := by
      unfold kJ_X3_run_69
      simp only [fz_lc, p1]
    have eK : kL_X3_run_14 la (G + 1) (s + (L.length : Int)) (0 + (j : Int)) w2 = kB_X3_run_14 (kL_X3_run_14 la G) la (s + (L.length : Int)) (0 + (j : Int)) w2 := rfl
    rw [b4, hG, eK]
    unfold kB_X3_run_14
    by_cases q : 0 + (j : Int) < N
    · simp only [fz_lt, fz_lr, x1, if_pos q, if_neg (show ¬ s + (L.length : Int) < 0 by omega), if_pos h1, g3, Int.toNat_natCast, e59, if_true, e69]
      rfl
    · simp only [fz_lt, x1, if_neg q, e69]
      rfl
theorem zv_rt.mv {w : fx_U} (hr : zv_rt a2 bq bc bf V v0) (hw : zv_fr bq v0 w) : zv_rt a2 bq bc bf V w := ⟨hr.1, (hw a2 hr.1.2.1 28).trans hr.2.1, fun x hx => (hw bf hr.1.2.2 _).trans (hr.2.2 x hx)⟩
theorem zv_fr.tr {u w y : fx_U} (h : zv_fr bq u w) (k : zv_fr bq w y) : zv_fr bq u y := fun b hb i => (k b hb i).trans (h b hb i)
theorem zv_cem {w : fx_U} {f : Int} {L : List (Int × Int)} (hr : zv_rt a2 bq bc bf V v0) (hw : zv_fr bq v0 w) (h0 : 0 ≤ f) (h : zl_ce bc v0 f L) : zl_ce bc w f L := zl_ce_keep (e := f + (L.length : Int)) (fun i _ => hw bc hr.1.1 i) L f h0 (Int.le_refl _) h
/-- a run in the reference -/
theorem zv_com {w : fx_U} {f x2 : Int} {L : List (Int × Int)} {r : Option Int} (hr : zv_rt a2 bq bc bf V w) (h27 : w a2 27 = (bq : Int)) (h21 : w a2 21 = (bc : Int)) (hce : zl_ce bc w f L) (h0 : 0 ≤ f) (h1 : x2 = f + (L.length : Int)) (h2 : x2 ≤ 260) (hL : 0 < L.length) (cl : zv_rl a2 bq bc w L r) : ∃ y : fx_U, f_X12_comesTo w a2 f x2 = (r.getD 0, y) ∧ zv_fr bq w y := by
  have d : f / 260 = 0 := by omega
  have eR : f_X12_comesTo w a2 f x2 = kL_X12_comesTo_16 x2 bc bq a2 0 (Int.toNat (260 - f) + 1) 0 f w := by
    unfold f_X12_comesTo
    simp only [fz_lt, fz_lr, h27, h21, Int.toNat_natCast, d, show (260 : Int) * 0 = 0 from rfl]
  have res := cl (Int.toNat (260 - f) + 1) x2 f w [] hce h0 (by omega) (by omega) (fun _ _ _ => rfl) True.intro (by omega)
  have l0 : ((([] : List Int).length : Nat) : Int) = 0 := rfl
  rw [l0] at res
  rw [eR]
  cases r with
  | none =>
    obtain ⟨y, b1, b2⟩ := res.2 rfl
    exact ⟨y, b2, b1⟩
  | some v =>
    obtain ⟨w2, j, b1, b2, b3, b4⟩ := res.1 v rfl
    refine ⟨w2, ?_, b2⟩
    obtain ⟨G, hG⟩ : ∃ G : Nat, Int.toNat (260 - f) + 1 - j = G + 1 := ⟨Int.toNat (260 - f) - j, by omega⟩
    have nx : ¬ f + (L.length : Int) < x2 := by omega
    have v1 : w2 bq (Int.toNat 0) = v := b3.1
    rw [b4, hG, zv_rS]
    unfold kB_X12_comesTo_16
    simp only [fz_lt, if_neg nx, v1]
    rfl
/-- the law's clauses as both keep them, from one on -/
def zv_Lc (sg vl l5 l6 l7 : Nat) (N : Int) (u : fx_U) : Nat → List (Int × List (Int × Int) × List (Int × Int)) → Prop
  | _, [] => True
  | j, x :: R => (u l5 j = x.1 ∧ (0 ≤ u l6 j ∧ u l6 j + (x.2.1.length : Int) < N) ∧ zl_cd sg vl u (u l6 j) (x.2.1 ++ [(59, 0)]) ∧ (0 ≤ u l7 j ∧ u l7 j + (x.2.2.length : Int) < N) ∧ zl_cd sg vl u (u l7 j) (x.2.2 ++ [(59, 0)])) ∧ zv_Lc sg vl l5 l6 l7 N u (j + 1) R
def zv_Lr (bl b3 b4 b5 bc : Nat) (v : fx_U) : Nat → List (Int × List (Int × Int) × List (Int × Int)) → Prop
  | _, [] => True
  | j, x :: R => (v bl j = x.1 ∧ (0 ≤ v b3 j ∧ v b4 j = v b3 j + (x.2.1.length : Int)) ∧ zl_ce bc v (v b3 j) x.2.1 ∧ (v b5 j = v b4 j + (x.2.2.length : Int) ∧ v b5 j ≤ 260) ∧ zl_ce bc v (v b4 j) x.2.2) ∧ zv_Lr bl b3 b4 b5 bc v (j + 1) R
/-- each is an E and a C -/
def zv_LE (R : List (Int × List (Int × Int) × List (Int × Int))) : Prop := ∀ x ∈ R, zv_E 16 x.2.1 ∧ zv_C x.2.2
theorem zv_E.pos {m : Nat} {L : List (Int × Int)} (h : zv_E m L) : 0 < L.length := by
  refine h (fun _ L => 0 < L.length) ?_ ?_ ?_
  · intro m v _ _
    exact Nat.lt_succ_self 0
  · intro m x _ _
    exact Nat.lt_succ_self 0
  · intro m p q a b c _ _ _ _ _
    rw [List.length_append]
    exact Nat.lt_of_lt_of_le (Nat.lt_succ_self 0) (Nat.le_add_left _ _)
theorem zv_C.pos {L : List (Int × Int)} (h : zv_C L) : 0 < L.length := by
  refine h (fun L => 0 < L.length) ?_ ?_ ?_
  · intro p q a b c _ _ _ _ _
    rw [List.length_append]
    exact Nat.lt_of_lt_of_le (Nat.lt_succ_self 0) (Nat.le_add_left _ _)
  · intro a _
    rw [List.length_append]
    exact Nat.lt_of_lt_of_le (Nat.lt_succ_self 0) (Nat.le_add_left _ _)
  · intro a b c _ _ _
    rw [List.length_append, List.length_cons]
    omega
end Ask
