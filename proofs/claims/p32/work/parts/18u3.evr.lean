/-! WHAT THE LAW COMES TO in the reference: its stack, its steps -/
def zv_fr (bk : Nat) (u w : fx_U) : Prop := ∀ b : Nat, b ≠ bk → ∀ i : Nat, w b i = u b i
def zv_rt (a2 bk bc bf : Nat) (V : Int → Int) (v0 : fx_U) : Prop := (bc ≠ bk ∧ a2 ≠ bk ∧ bf ≠ bk) ∧ v0 a2 28 = (bf : Int) ∧ ∀ x : Int, zl_fo x ≠ -1 → v0 bf (zl_fo x).toNat = V x
section Evr
variable {a2 bk bc bf : Nat} {x2 f : Int} {V : Int → Int} {v0 w : fx_U} {st : List Int}
theorem zv_fr.pt {u : fx_U} {j : Nat} {x : Int} (h : zv_fr bk u w) : zv_fr bk u (fx_pt w bk j x) := fun b hb i => (zz_pa hb).trans (h b hb i)
theorem zv_fo {x : Int} (h : zl_fo x ≠ -1) : 0 ≤ zl_fo x ∧ zl_fo x < 9 := by
  unfold zl_fo at h ⊢
  repeat' split at h
  all_goals first | (exact absurd rfl h) | (simp only [*, if_true, if_false] <;> decide) | omega
theorem zv_rS (F : Nat) (n : Int) : kL_X12_comesTo_16 x2 bc bk a2 0 (F + 1) n f w = kB_X12_comesTo_16 (kL_X12_comesTo_16 x2 bc bk a2 0 F) x2 bc bk a2 0 n f w := rfl
/-- a number or a letter -/
theorem zv_r1 (hc : zv_rt a2 bk bc bf V v0) (hw : zv_fr bk v0 w) (hs : zv_sk bk w st) (hf : f < x2) {c x : Int} (h : (c = 48 ∧ 0 ≤ x ∧ x < 1048576) ∨ (c = 105 ∧ zl_fo x ≠ -1)) (e : v0 bc f.toNat = 1048576 * zl_o0 c + zl_e f (c, x)) (F : Nat) : ∃ y : fx_U, kL_X12_comesTo_16 x2 bc bk a2 0 (F + 1) (st.length : Int) f w = kL_X12_comesTo_16 x2 bc bk a2 0 F ((st.length : Int) + 1) (f + 1) y ∧ zv_sk bk y ((if c = 48 then x else V x) :: st) ∧ zv_fr bk v0 y := by
  have e2 := (hw bc hc.1.1 f.toNat).trans e
  rcases h with ⟨h, hx⟩ | ⟨h, hx⟩
  · have eo : zl_o0 c = 0 := by
      rw [h]
      decide
    have ee : zl_e f (c, x) = x := by
      rw [h]
      rfl
    rw [eo, ee] at e2
    have d1 : (1048576 * 0 + x) / 1048576 = 0 := by omega
    have d2 : (1048576 * 0 + x) % 1048576 = x := by omega
    refine ⟨fx_pt w bk st.length x, ?_, ?_, hw.pt⟩
    · rw [zv_rS]
      unfold kB_X12_comesTo_16 kJ_X12_comesTo_63 kJ_X12_comesTo_85 kJ_X12_comesTo_230
      simp only [fz_lt, fz_lr, fz_ls, if_pos hf, e2, d1, d2, if_true, Int.toNat_natCast]
    · rw [if_pos h]
      exact ⟨zz_ps, zv_sk.keep st (fun i hi => zz_pj (by omega)) hs⟩
  · have n48 : ¬ c = 48 := by omega
    have fo := zv_fo hx
    have eo : zl_o0 c = 1 := by
      rw [h]
      decide
    have ee : zl_e f (c, x) = zl_fo x := by
      rw [h]
      rfl
    rw [eo, ee] at e2
    have d1 : (1048576 * 1 + zl_fo x) / 1048576 = 1 := by omega
    have d2 : (1048576 * 1 + zl_fo x) % 1048576 = zl_fo x := by omega
    have g1 : w a2 28 = (bf : Int) := (hw a2 hc.1.2.1 28).trans hc.2.1
    have g2 : w bf (zl_fo x).toNat = V x := (hw bf hc.1.2.2 _).trans (hc.2.2 x hx)
    refine ⟨fx_pt w bk st.length (V x), ?_, ?_, hw.pt⟩
    · rw [zv_rS]
      unfold kB_X12_comesTo_16 kJ_X12_comesTo_63 kJ_X12_comesTo_85 kJ_X12_comesTo_230
      simp only [fz_lt, fz_lr, fz_ls, if_pos hf, e2, d1, d2, if_neg zz_n10, if_true, g1, Int.toNat_natCast, g2]
    · rw [if_neg n48]
      exact ⟨zz_ps, zv_sk.keep st (fun i hi => zz_pj (by omega)) hs⟩
/-- a ! -/
theorem zv_r2 (hc : zv_rt a2 bk bc bf V v0) (hw : zv_fr bk v0 w) {x : Int} (hs : zv_sk bk w (x :: st)) (hx : x = 0 ∨ x = 1) (hf : f < x2) (e : v0 bc f.toNat = 1048576 * zl_o0 33 + zl_e f (33, 0)) (F : Nat) : ∃ y : fx_U, kL_X12_comesTo_16 x2 bc bk a2 0 (F + 1) ((x :: st).length : Int) f w = kL_X12_comesTo_16 x2 bc bk a2 0 F ((x :: st).length : Int) (f + 1) y ∧ zv_sk bk y ((if x = 0 then 1 else 0) :: st) ∧ zv_fr bk v0 y := by
  have e2 := (hw bc hc.1.1 f.toNat).trans e
  have e3 : w bc f.toNat = 10485760 := e2
  have l1 : (((x :: st).length : Nat) : Int) - 1 = (st.length : Int) := by
    rw [List.length_cons]
    omega
  have s1 : w bk st.length = x := hs.1
  have sb : fx_b_sub 1 x = if x = 0 then 1 else 0 := by
    rcases hx with rfl | rfl
    · rw [zz_wsub (zz_sml ⟨by decide, by decide⟩) (zz_sml ⟨by decide, by decide⟩) (zz_sml ⟨by decide, by decide⟩)]
      rfl
    · rw [zz_wsub (zz_sml ⟨by decide, by decide⟩) (zz_sml ⟨by decide, by decide⟩) (zz_sml ⟨by decide, by decide⟩)]
      rfl
  refine ⟨fx_pt w bk st.length (if x = 0 then 1 else 0), ?_, ⟨zz_ps, zv_sk.keep st (fun i hi => zz_pj (by omega)) hs.2⟩, hw.pt⟩
  rw [zv_rS]
  unfold kB_X12_comesTo_16 kJ_X12_comesTo_230
  simp only [fz_lt, fz_lr, fz_ls, if_pos hf, e3, show (10485760 : Int) / 1048576 = 10 from rfl, if_neg (show ¬ (10 : Int) = 0 by decide), if_neg (show ¬ (10 : Int) = 1 by decide), if_true, l1, Int.toNat_natCast, s1, sb]
/-- a jump -/
theorem zv_r3 (hc : zv_rt a2 bk bc bf V v0) (hw : zv_fr bk v0 w) {c x L : Int} (hs : zv_sk bk w (x :: st)) (hx : x = 0 ∨ x = 1) (h : c = 38 ∨ c = 124) (h0 : 0 ≤ f) (hf : f < x2) (hL : 0 ≤ L ∧ f + L < 1048576) (e : v0 bc f.toNat = 1048576 * zl_o0 c + zl_e f (c, L)) (F : Nat) : kL_X12_comesTo_16 x2 bc bk a2 0 (F + 1) ((x :: st).length : Int) f w = if (c = 38 ∧ x = 0) ∨ (c = 124 ∧ x ≠ 0) then kL_X12_comesTo_16 x2 bc bk a2 0 F ((x :: st).length : Int) (f + L) w else kL_X12_comesTo_16 x2 bc bk a2 0 F (st.length : Int) (f + 1) w := by
  have e2 := (hw bc hc.1.1 f.toNat).trans e
  have l1 : (((x :: st).length : Nat) : Int) - 1 = (st.length : Int) := by
    rw [List.length_cons]
    omega
  have s1 : w bk st.length = x := hs.1
  have z0 : (0 : Int) + (f + L) = f + L := by omega
  rcases h with h | h
  · rw [h, show zl_o0 38 = 11 by decide, zl_ej.1] at e2
    have d1 : (1048576 * 11 + (f + L)) / 1048576 = 11 := by omega
    have d2 : (1048576 * 11 + (f + L)) % 1048576 = f + L := by omega
    rw [zv_rS]
    unfold kB_X12_comesTo_16 kJ_X12_comesTo_135 kJ_X12_comesTo_155 kJ_X12_comesTo_230
    by_cases q : x = 0
    · rw [if_pos (Or.inl ⟨h, q⟩)]
      simp only [fz_lt, if_pos hf, e2, d1, d2, if_neg (show ¬ (11 : Int) = 0 by decide), if_neg (show ¬ (11 : Int) = 1 by decide), if_neg (show ¬ (11 : Int) = 10 by decide), if_neg (show ¬ (11 : Int) = 12 by decide), if_true, l1, Int.toNat_natCast, s1, if_pos q, z0]
    · rw [if_neg (show ¬ ((c = 38 ∧ x = 0) ∨ (c = 124 ∧ x ≠ 0)) by omega)]
      simp only [fz_lt, if_pos hf, e2, d1, d2, if_neg (show ¬ (11 : Int) = 0 by decide), if_neg (show ¬ (11 : Int) = 1 by decide), if_neg (show ¬ (11 : Int) = 10 by decide), if_neg (show ¬ (11 : Int) = 12 by decide), if_true, l1, Int.toNat_natCast, s1, if_neg q]
  · rw [h, show zl_o0 124 = 12 by decide, zl_ej.2] at e2
    have d1 : (1048576 * 12 + (f + L)) / 1048576 = 12 := by omega
    have d2 : (1048576 * 12 + (f + L)) % 1048576 = f + L := by omega
    rw [zv_rS]
    unfold kB_X12_comesTo_16 kJ_X12_comesTo_135 kJ_X12_comesTo_155 kJ_X12_comesTo_230
    by_cases q : x = 1
    · rw [if_pos (Or.inr ⟨h, by omega⟩)]
      simp only [fz_lt, if_pos hf, e2, d1, d2, if_neg (show ¬ (12 : Int) = 0 by decide), if_neg (show ¬ (12 : Int) = 1 by decide), if_neg (show ¬ (12 : Int) = 10 by decide), if_neg (show ¬ (12 : Int) = 11 by decide), if_true, l1, Int.toNat_natCast, s1, if_pos q, z0]
    · rw [if_neg (show ¬ ((c = 38 ∧ x = 0) ∨ (c = 124 ∧ x ≠ 0)) by omega)]
      simp only [fz_lt, if_pos hf, e2, d1, d2, if_neg (show ¬ (12 : Int) = 0 by decide), if_neg (show ¬ (12 : Int) = 1 by decide), if_neg (show ¬ (12 : Int) = 10 by decide), if_neg (show ¬ (12 : Int) = 11 by decide), if_true, l1, Int.toNat_natCast, s1, if_neg q]
/-- two numbers and a sign -/
theorem zv_rkR {c x y : Int} (h : c = 43 ∨ c = 45 ∨ c = 42 ∨ c = 47 ∨ c = 37 ∨ c = 60 ∨ c = 62 ∨ c = 61) {v : Int} (e : zv_rk c x y = some v) : f_X12_reckon w (zl_o0 c) x y = v := by
  unfold zv_rk at e
  unfold f_X12_reckon
  simp only [fz_lt]
  rcases h with rfl | rfl | rfl | rfl | rfl | rfl | rfl | rfl
  · exact Option.some.inj e
  · exact Option.some.inj e
  · exact Option.some.inj e
  · by_cases q : y = 0
    · simp only [if_pos q] at e
      exact absurd e (by intro z; cases z)
    · simp only [if_neg q] at e
      exact Option.some.inj e
  · by_cases q : y = 0
    · simp only [if_pos q] at e
      exact absurd e (by intro z; cases z)
    · simp only [if_neg q] at e
      exact Option.some.inj e
  · exact Option.some.inj e
  · exact Option.some.inj e
  · exact Option.some.inj e
theorem zv_r4 (hc : zv_rt a2 bk bc bf V v0) (hw : zv_fr bk v0 w) {c x y : Int} (hs : zv_sk bk w (y :: x :: st)) (hf : f < x2) (h : c = 43 ∨ c = 45 ∨ c = 42 ∨ c = 47 ∨ c = 37 ∨ c = 60 ∨ c = 62 ∨ c = 61) (e : v0 bc f.toNat = 1048576 * zl_o0 c + zl_e f (c, 0)) (F : Nat) : ∃ z : fx_U, zv_fr bk v0 z ∧ match zv_rk c x y with | some v => kL_X12_comesTo_16 x2 bc bk a2 0 (F + 1) ((y :: x :: st).length : Int) f w = kL_X12_comesTo_16 x2 bc bk a2 0 F ((x :: st).length : Int) (f + 1) z ∧ zv_sk bk z (v :: st) | none => kL_X12_comesTo_16 x2 bc bk a2 0 (F + 1) ((y :: x :: st).length : Int) f w = (0, z) := by
  have e2 := (hw bc hc.1.1 f.toNat).trans e
  have ee : zl_e f (c, 0) = 0 := by
    rcases h with rfl | rfl | rfl | rfl | rfl | rfl | rfl | rfl <;> rfl
  have oc : (2 ≤ zl_o0 c ∧ zl_o0 c ≤ 9) ∧ ((zl_o0 c = 5 ∨ zl_o0 c = 6) ↔ (c = 47 ∨ c = 37)) := by
    rcases h with rfl | rfl | rfl | rfl | rfl | rfl | rfl | rfl <;> decide
  rw [ee] at e2
  have d1 : (1048576 * zl_o0 c + 0) / 1048576 = zl_o0 c := by omega
  have l1 : (((y :: x :: st).length : Nat) : Int) - 1 = ((x :: st).length : Int) := by
    rw [List.length_cons]
    omega
  have l2 : (((x :: st).length : Nat) : Int) - 1 = (st.length : Int) := by
    rw [List.length_cons]
    omega
  have s1 : w bk (x :: st).length = y := hs.1
  have s2 : w bk st.length = x := hs.2.1
  have i0 : ¬ zl_o0 c = 0 := by omega
  have i1 : ¬ zl_o0 c = 1 := by omega
  have i2 : ¬ zl_o0 c = 10 := by omega
  have i3 : ¬ zl_o0 c = 11 := by omega
  have i4 : ¬ zl_o0 c = 12 := by omega
  have e203 : ∀ v, zv_rk c x y = some v → kJ_X12_comesTo_203 ((x :: st).length : Int) w bk (zl_o0 c) (kL_X12_comesTo_16 x2 bc bk a2 0 F) (f + 1) = kL_X12_comesTo_16 x2 bc bk a2 0 F ((x :: st).length : Int) (f + 1) (fx_pt w bk st.length v) := fun v hv => by
    unfold kJ_X12_comesTo_203 kJ_X12_comesTo_230
    simp only [fz_lt, fz_ls, l2, Int.toNat_natCast, s1, s2, zv_rkR h hv]
  cases k : zv_rk c x y with
  | some v =>
    refine ⟨fx_pt w bk st.length v, hw.pt, ?_, zz_ps, zv_sk.keep st (fun i hi => zz_pj (by omega)) hs.2.2⟩
    have e4 := e203 v k
    rw [zv_rS]
    unfold kB_X12_comesTo_16 kJ_X12_comesTo_192
    by_cases j : zl_o0 c = 5 ∨ zl_o0 c = 6
    · have y0 : ¬ y = 0 := fun z => by
        unfold zv_rk at k
        rcases oc.2.mp j with rfl | rfl <;> simp only [if_pos z] at k <;> cases k
      rcases j with j | j
      · simp only [fz_lt, if_pos hf, e2, d1, if_neg i0, if_neg i1, if_neg i2, if_neg i3, if_neg i4, l1, if_pos j, Int.toNat_natCast, s1, if_neg y0, e4]
      · have j5 : ¬ zl_o0 c = 5 := by omega
        simp only [fz_lt, if_pos hf, e2, d1, if_neg i0, if_neg i1, if_neg i2, if_neg i3, if_neg i4, l1, if_neg j5, if_pos j, Int.toNat_natCast, s1, if_neg y0, e4]
    · have j5 : ¬ zl_o0 c = 5 := fun z => j (Or.inl z)
      have j6 : ¬ zl_o0 c = 6 := fun z => j (Or.inr z)
      simp only [fz_lt, if_pos hf, e2, d1, if_neg i0, if_neg i1, if_neg i2, if_neg i3, if_neg i4, l1, if_neg j5, if_neg j6, e4]
  | none =>
    refine ⟨w, hw, ?_⟩
    have jy : (zl_o0 c = 5 ∨ zl_o0 c = 6) ∧ y = 0 := by
      unfold zv_rk at k
      rcases h with rfl | rfl | rfl | rfl | rfl | rfl | rfl | rfl
      · cases k
      · cases k
      · cases k
      · refine ⟨Or.inl (by decide), ?_⟩
        by_cases q : y = 0
        · exact q
        · simp only [if_neg q] at k
          cases k
      · refine ⟨Or.inr (by decide), ?_⟩
        by_cases q : y = 0
        · exact q
        · simp only [if_neg q] at k
          cases k
      · cases k
      · cases k
      · cases k
    rw [zv_rS]
    unfold kB_X12_comesTo_16 kJ_X12_comesTo_192
    rcases jy.1 with j | j
    · simp only [fz_lt, if_pos hf, e2, d1, if_neg i0, if_neg i1, if_neg i2, if_neg i3, if_neg i4, l1, if_pos j, Int.toNat_natCast, s1, if_pos jy.2]
    · have j5 : ¬ zl_o0 c = 5 := by omega
      simp only [fz_lt, if_pos hf, e2, d1, if_neg i0, if_neg i1, if_neg i2, if_neg i3, if_neg i4, l1, if_neg j5, if_pos j, Int.toNat_natCast, s1, if_pos jy.2]
end Evr
