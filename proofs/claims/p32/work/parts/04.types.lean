/-! WHAT A PLACE MAY HOLD: (0, lo, hi): a number from lo to hi; (1, k, n): the cell of kind k and length n (an object that is made: length 1); (2, ..): any cell or none; (3, lo, hi): a number from lo to hi that is not -1 -/
def q_ft : List (List (Nat × Int × Int)) := [
  [(1, 211, 64), (0, (-2147483648), 2147483647), (0, (-2147483648), 2147483647), (0, (-2147483648), 2147483647)],
  [(1, 132, 61), (1, 133, 61), (1, 134, 64), (1, 135, 64), (1, 136, 64)],
  [(0, 0, 20), (1, 137, 20), (1, 138, 20), (1, 139, 2)],
  [(0, 0, 16), (0, 0, 240), (0, 0, 1), (1, 112, 240), (1, 113, 240), (1, 114, 16), (1, 115, 16), (1, 116, 16), (1, 117, 32), (0, 0, 32), (0, 0, 1), (2, 0, 0), (0, (-2147483648), 2147483647), (0, (-2147483648), 2147483647), (0, (-2147483648), 2147483647), (0, (-2147483648), 2147483647)],
  [(2, 0, 0), (0, 0, 260), (0, (-2147483648), 2147483647), (0, (-2147483648), 2147483647), (1, 3, 1)],
  [(1, 129, 64), (1, 130, 64), (1, 131, 2), (0, (-2147483648), 2147483647), (0, (-2147483648), 2147483647), (0, (-2147483648), 2147483647), (0, (-2147483648), 2147483647)],
  [(0, 8, 64), (1, 118, 64), (1, 118, 64), (1, 118, 64), (1, 119, 64), (1, 120, 64), (1, 121, 64), (1, 122, 64), (1, 123, 64), (1, 210, 2), (1, 124, 2), (1, 125, 2), (1, 126, 2), (1, 127, 12), (1, 128, 12), (0, (-2147483648), 2147483647), (0, (-2147483648), 2147483647), (0, (-2147483648), 2147483647)],
  [(1, 111, 64), (2, 0, 0), (0, 0, 260), (0, (-2147483648), 2147483647), (0, 0, 64), (0, (-2147483648), 2147483647)],
  [(1, 400, 5), (1, 141, 4)],
  [(1, 110, 260), (0, 0, 260), (1, 7, 1), (1, 4, 1), (1, 3, 1), (1, 6, 1), (1, 6, 1), (1, 6, 1), (0, 0, 1), (1, 5, 1), (1, 1, 1), (1, 0, 1), (1, 8, 1), (1, 2, 1)],
  [(1, 100, 549), (1, 101, 549), (1, 102, 549), (1, 310, 260), (0, 0, 260), (0, 0, 260), (0, 0, 260), (0, (-2147483648), 2147483647), (0, (-2147483648), 2147483647), (0, (-2147483648), 2147483647), (0, 0, 260), (0, 0, 260), (0, 0, 16), (0, 0, 16), (0, 0, 64), (1, 150, 260), (1, 151, 260), (1, 152, 16), (1, 153, 16), (1, 154, 16), (1, 155, 16), (1, 156, 260), (1, 157, 16), (1, 158, 16), (1, 159, 16), (1, 160, 16), (1, 161, 64), (1, 162, 260), (1, 163, 9), (0, (-2147483648), 2147483647), (1, 164, 3904), (1, 165, 64), (1, 166, 64), (1, 167, 64), (1, 168, 64), (1, 169, 64), (1, 170, 64), (1, 171, 2), (1, 172, 2), (0, 0, 64), (0, (-1), 63), (0, (-2147483648), 2147483647), (0, (-2147483648), 2147483647), (1, 173, 325), (1, 174, 4), (0, 0, 1)]]
def q_now (j : Nat) : Nat × Int × Int := if j = 512 then (0, 8, 64) else if j = 520 then (3, (-2), 63) else if j = 521 then (3, (-2), 63) else if j < 64 then (0, (-99), 99) else (0, (-2147483648), 2147483647)
def q_ai (k : Nat) : Nat × Int × Int := if k = 110 then (0, 0, 255) else if k = 124 then (0, (-2), 63) else if k = 134 then (0, 0, 60) else if k = 161 then (0, (-99), 99) else if k = 171 then (0, (-1), 63) else (0, (-2147483648), 2147483647)
def q_f (k j : Nat) : Nat × Int × Int := if k < 100 then (q_ft.getD k []).getD j (2, 0, 0) else if k = 100 then q_now j else if k < 200 then q_ai k else if k < 300 then (0, 0, 1) else if k < 400 then (0, -128, 127) else (1, 140, 65)
def q_nf (k : Nat) : Nat := (q_ft.getD k []).length
def q_lim (k n : Nat) : Nat := if k < 100 then (if n = 1 then q_nf k else 0) else n
def q_v (τ : q_T) (t : Nat × Int × Int) (v : Value) : Prop := (t.1 = 0 ∧ ∃ x : Int32, v = .int x ∧ t.2.1 ≤ x.toInt ∧ x.toInt ≤ t.2.2) ∨ (t.1 = 1 ∧ ∃ b : Nat, v = .ref b ∧ τ b = some (t.2.1.toNat, t.2.2.toNat) ∧ (t.2.1.toNat < 100 → t.2.2.toNat = 1)) ∨ (t.1 = 2 ∧ (v = .null ∨ ∃ b : Nat, v = .ref b)) ∨ (t.1 = 3 ∧ ∃ x : Int32, v = .int x ∧ t.2.1 ≤ x.toInt ∧ x.toInt ≤ t.2.2 ∧ x.toInt ≠ -1)
def q_c (τ : q_T) (k n : Nat) (f : Nat → Value) : Prop := ∀ j, j < q_lim k n → q_v τ (q_f k j) (f j)
def q_I (τ : q_T) (σ : q_V) : Prop := ∀ a k n : Nat, τ a = some (k, n) → q_c τ k n (σ a)
/-- which places may have changed: (kind, place) of objects, (kind, 0) of arrays -/
def q_F (md : List (Nat × Nat)) (τ : q_T) (σ σ1 : q_V) : Prop := ∀ a k n j : Nat, τ a = some (k, n) → md.contains (k, if k < 100 then j else 0) = false → σ1 a j = σ a j
def q_S (md : List (Nat × Nat)) (τ : q_T) (σ σ1 : q_V) : Prop := q_I τ σ1 ∧ q_F md τ σ σ1
def q_r (x : Int32) (lo hi : Int) : Prop := lo ≤ x.toInt ∧ x.toInt ≤ hi
/-- a class by its number: its words are in the tables, its fields have names apart and types -/
def q_cl (k : Nat) (r : vw_C) (ty : Nat → FieldType) : Prop := k < 100 ∧ vwCl[k]? = some r ∧ (∀ w ∈ u_ws r.1 r.2.1 r.2.2, w ∈ q_tbl) ∧ (∀ a, a < r.2.2 → ∀ b, b < r.2.2 → a ≠ b → (r.2.1 a).2.1 ≠ (r.2.1 b).2.1) ∧ (∀ j, j < r.2.2 → parseFieldDescriptor (r.2.1 j).2.2.1 = some (ty j)) ∧ q_nf k = r.2.2
theorem kl_0 : q_cl 0 (RX0, TX0, 4) tyX0 := ⟨by decide, rfl, in_0, nmX0, tyX0_ok, rfl⟩
theorem kl_1 : q_cl 1 (RX1, TX1, 5) tyX1 := ⟨by decide, rfl, in_1, nmX1, tyX1_ok, rfl⟩
theorem kl_2 : q_cl 2 (RX2, TX2, 4) tyX2 := ⟨by decide, rfl, in_2, nmX2, tyX2_ok, rfl⟩
theorem kl_3 : q_cl 3 (RX3, TX3, 16) tyX3 := ⟨by decide, rfl, in_3, nmX3, tyX3_ok, rfl⟩
theorem kl_4 : q_cl 4 (RX4, TX4, 5) tyX4 := ⟨by decide, rfl, in_4, nmX4, tyX4_ok, rfl⟩
theorem kl_5 : q_cl 5 (RX6, TX6, 7) tyX6 := ⟨by decide, rfl, in_5, nmX6, tyX6_ok, rfl⟩
theorem kl_6 : q_cl 6 (RX7, TX7, 18) tyX7 := ⟨by decide, rfl, in_6, nmX7, tyX7_ok, rfl⟩
theorem kl_7 : q_cl 7 (RX8, TX8, 6) tyX8 := ⟨by decide, rfl, in_7, nmX8, tyX8_ok, rfl⟩
theorem kl_8 : q_cl 8 (RX10, TX10, 2) tyX10 := ⟨by decide, rfl, in_8, nmX10, tyX10_ok, rfl⟩
theorem kl_9 : q_cl 9 (RX11, TX11, 14) tyX11 := ⟨by decide, rfl, in_9, nmX11, tyX11_ok, rfl⟩
theorem kl_10 : q_cl 10 (RX12, TX12, 46) tyX12 := ⟨by decide, rfl, in_10, nmX12, tyX12_ok, rfl⟩
/-- a field of a class, as an entry of a class's pool names it -/
def q_fl (own : String) (idx k j : Nat) (fin : Bool) (ty : FieldType) : Prop := ∃ (r : vw_C) (t : Nat → FieldType), q_cl k r t ∧ j < r.2.2 ∧ Cond.fieldLink own idx (r.2.1 j).1 (r.2.1 j).2.1 (r.2.1 j).2.2.1 ∈ q_tbl ∧ (r.2.1 j).2.2.2 = fin ∧ t j = ty ∧ (r.2.1 j).1 = r.1
theorem fl_X8_9 : q_fl "WhiteLine$RowReader" 9 7 0 true (.array .int) := ⟨_, _, kl_7, by decide, w29, rfl, rfl, rfl⟩
theorem fl_X8_18 : q_fl "WhiteLine$RowReader" 18 7 1 false (.array .int) := ⟨_, _, kl_7, by decide, w30, rfl, rfl, rfl⟩
theorem fl_X8_21 : q_fl "WhiteLine$RowReader" 21 7 2 false .int := ⟨_, _, kl_7, by decide, w31, rfl, rfl, rfl⟩
theorem fl_X8_25 : q_fl "WhiteLine$RowReader" 25 7 3 false .int := ⟨_, _, kl_7, by decide, w32, rfl, rfl, rfl⟩
theorem fl_X8_28 : q_fl "WhiteLine$RowReader" 28 7 4 false .int := ⟨_, _, kl_7, by decide, w33, rfl, rfl, rfl⟩
theorem fl_X8_31 : q_fl "WhiteLine$RowReader" 31 7 5 false .int := ⟨_, _, kl_7, by decide, w34, rfl, rfl, rfl⟩
theorem fl_X3_9 : q_fl "WhiteLine$Law" 9 3 0 false .int := ⟨_, _, kl_3, by decide, w47, rfl, rfl, rfl⟩
theorem fl_X11_129 : q_fl "WhiteLine" 129 3 0 false .int := ⟨_, _, kl_3, by decide, w48, rfl, rfl, rfl⟩
theorem fl_X3_15 : q_fl "WhiteLine$Law" 15 3 1 false .int := ⟨_, _, kl_3, by decide, w49, rfl, rfl, rfl⟩
theorem fl_X3_18 : q_fl "WhiteLine$Law" 18 3 2 false .boolean := ⟨_, _, kl_3, by decide, w50, rfl, rfl, rfl⟩
theorem fl_X11_266 : q_fl "WhiteLine" 266 3 2 false .boolean := ⟨_, _, kl_3, by decide, w51, rfl, rfl, rfl⟩
theorem fl_X3_22 : q_fl "WhiteLine$Law" 22 3 3 true (.array .int) := ⟨_, _, kl_3, by decide, w52, rfl, rfl, rfl⟩
theorem fl_X3_26 : q_fl "WhiteLine$Law" 26 3 4 true (.array .int) := ⟨_, _, kl_3, by decide, w53, rfl, rfl, rfl⟩
theorem fl_X3_29 : q_fl "WhiteLine$Law" 29 3 5 true (.array .int) := ⟨_, _, kl_3, by decide, w54, rfl, rfl, rfl⟩
theorem fl_X3_32 : q_fl "WhiteLine$Law" 32 3 6 true (.array .int) := ⟨_, _, kl_3, by decide, w55, rfl, rfl, rfl⟩
theorem fl_X3_35 : q_fl "WhiteLine$Law" 35 3 7 true (.array .int) := ⟨_, _, kl_3, by decide, w56, rfl, rfl, rfl⟩
theorem fl_X3_38 : q_fl "WhiteLine$Law" 38 3 8 true (.array .int) := ⟨_, _, kl_3, by decide, w57, rfl, rfl, rfl⟩
theorem fl_X3_41 : q_fl "WhiteLine$Law" 41 3 9 false .int := ⟨_, _, kl_3, by decide, w58, rfl, rfl, rfl⟩
theorem fl_X3_44 : q_fl "WhiteLine$Law" 44 3 10 false .boolean := ⟨_, _, kl_3, by decide, w59, rfl, rfl, rfl⟩
theorem fl_X3_47 : q_fl "WhiteLine$Law" 47 3 11 false (.object "WhiteLine$Road") := ⟨_, _, kl_3, by decide, w60, rfl, rfl, rfl⟩
theorem fl_X3_51 : q_fl "WhiteLine$Law" 51 3 12 false .int := ⟨_, _, kl_3, by decide, w61, rfl, rfl, rfl⟩
theorem fl_X3_54 : q_fl "WhiteLine$Law" 54 3 13 false .int := ⟨_, _, kl_3, by decide, w62, rfl, rfl, rfl⟩
theorem fl_X3_57 : q_fl "WhiteLine$Law" 57 3 14 false .int := ⟨_, _, kl_3, by decide, w63, rfl, rfl, rfl⟩
theorem fl_X3_60 : q_fl "WhiteLine$Law" 60 3 15 false .int := ⟨_, _, kl_3, by decide, w64, rfl, rfl, rfl⟩
theorem fl_X4_13 : q_fl "WhiteLine$LawReader" 13 4 0 false (.array .int) := ⟨_, _, kl_4, by decide, w66, rfl, rfl, rfl⟩
theorem fl_X4_18 : q_fl "WhiteLine$LawReader" 18 4 1 false .int := ⟨_, _, kl_4, by decide, w67, rfl, rfl, rfl⟩
theorem fl_X4_22 : q_fl "WhiteLine$LawReader" 22 4 2 false .int := ⟨_, _, kl_4, by decide, w68, rfl, rfl, rfl⟩
theorem fl_X4_25 : q_fl "WhiteLine$LawReader" 25 4 3 false .int := ⟨_, _, kl_4, by decide, w69, rfl, rfl, rfl⟩
theorem fl_X4_31 : q_fl "WhiteLine$LawReader" 31 4 4 false (.object "WhiteLine$Law") := ⟨_, _, kl_4, by decide, w70, rfl, rfl, rfl⟩
theorem fl_X11_126 : q_fl "WhiteLine" 126 4 4 false (.object "WhiteLine$Law") := ⟨_, _, kl_4, by decide, w71, rfl, rfl, rfl⟩
theorem fl_X7_9 : q_fl "WhiteLine$Road" 9 6 0 false .int := ⟨_, _, kl_6, by decide, w88, rfl, rfl, rfl⟩
theorem fl_X1_27 : q_fl "WhiteLine$Fit" 27 6 0 false .int := ⟨_, _, kl_6, by decide, w89, rfl, rfl, rfl⟩
theorem fl_X10_20 : q_fl "WhiteLine$Stretches" 20 6 0 false .int := ⟨_, _, kl_6, by decide, w90, rfl, rfl, rfl⟩
theorem fl_X6_34 : q_fl "WhiteLine$Plan" 34 6 0 false .int := ⟨_, _, kl_6, by decide, w91, rfl, rfl, rfl⟩
theorem fl_X9_19 : q_fl "WhiteLine$Sight" 19 6 0 false .int := ⟨_, _, kl_6, by decide, w92, rfl, rfl, rfl⟩
theorem fl_X0_47 : q_fl "WhiteLine$Driver" 47 6 0 false .int := ⟨_, _, kl_6, by decide, w93, rfl, rfl, rfl⟩
theorem fl_X11_98 : q_fl "WhiteLine" 98 6 0 false .int := ⟨_, _, kl_6, by decide, w94, rfl, rfl, rfl⟩
theorem fl_X5_83 : q_fl "WhiteLine$Night" 83 6 0 false .int := ⟨_, _, kl_6, by decide, w95, rfl, rfl, rfl⟩
theorem fl_X3_94 : q_fl "WhiteLine$Law" 94 6 0 false .int := ⟨_, _, kl_6, by decide, w96, rfl, rfl, rfl⟩
theorem fl_X7_15 : q_fl "WhiteLine$Road" 15 6 1 true (.array .int) := ⟨_, _, kl_6, by decide, w97, rfl, rfl, rfl⟩
theorem fl_X1_43 : q_fl "WhiteLine$Fit" 43 6 1 true (.array .int) := ⟨_, _, kl_6, by decide, w98, rfl, rfl, rfl⟩
theorem fl_X0_53 : q_fl "WhiteLine$Driver" 53 6 1 true (.array .int) := ⟨_, _, kl_6, by decide, w99, rfl, rfl, rfl⟩
theorem fl_X3_99 : q_fl "WhiteLine$Law" 99 6 1 true (.array .int) := ⟨_, _, kl_6, by decide, w100, rfl, rfl, rfl⟩
theorem fl_X11_187 : q_fl "WhiteLine" 187 6 1 true (.array .int) := ⟨_, _, kl_6, by decide, w101, rfl, rfl, rfl⟩
theorem fl_X7_19 : q_fl "WhiteLine$Road" 19 6 2 true (.array .int) := ⟨_, _, kl_6, by decide, w102, rfl, rfl, rfl⟩
theorem fl_X9_9 : q_fl "WhiteLine$Sight" 9 6 2 true (.array .int) := ⟨_, _, kl_6, by decide, w103, rfl, rfl, rfl⟩
theorem fl_X3_102 : q_fl "WhiteLine$Law" 102 6 2 true (.array .int) := ⟨_, _, kl_6, by decide, w104, rfl, rfl, rfl⟩
theorem fl_X11_190 : q_fl "WhiteLine" 190 6 2 true (.array .int) := ⟨_, _, kl_6, by decide, w105, rfl, rfl, rfl⟩
theorem fl_X7_22 : q_fl "WhiteLine$Road" 22 6 3 true (.array .int) := ⟨_, _, kl_6, by decide, w106, rfl, rfl, rfl⟩
theorem fl_X10_39 : q_fl "WhiteLine$Stretches" 39 6 3 true (.array .int) := ⟨_, _, kl_6, by decide, w107, rfl, rfl, rfl⟩
theorem fl_X3_105 : q_fl "WhiteLine$Law" 105 6 3 true (.array .int) := ⟨_, _, kl_6, by decide, w108, rfl, rfl, rfl⟩
theorem fl_X11_193 : q_fl "WhiteLine" 193 6 3 true (.array .int) := ⟨_, _, kl_6, by decide, w109, rfl, rfl, rfl⟩
theorem fl_X7_25 : q_fl "WhiteLine$Road" 25 6 4 true (.array .int) := ⟨_, _, kl_6, by decide, w110, rfl, rfl, rfl⟩
theorem fl_X0_25 : q_fl "WhiteLine$Driver" 25 6 4 true (.array .int) := ⟨_, _, kl_6, by decide, w111, rfl, rfl, rfl⟩
theorem fl_X11_117 : q_fl "WhiteLine" 117 6 4 true (.array .int) := ⟨_, _, kl_6, by decide, w112, rfl, rfl, rfl⟩
theorem fl_X7_28 : q_fl "WhiteLine$Road" 28 6 5 true (.array .int) := ⟨_, _, kl_6, by decide, w113, rfl, rfl, rfl⟩
theorem fl_X0_50 : q_fl "WhiteLine$Driver" 50 6 5 true (.array .int) := ⟨_, _, kl_6, by decide, w114, rfl, rfl, rfl⟩
theorem fl_X5_64 : q_fl "WhiteLine$Night" 64 6 5 true (.array .int) := ⟨_, _, kl_6, by decide, w115, rfl, rfl, rfl⟩
theorem fl_X11_200 : q_fl "WhiteLine" 200 6 5 true (.array .int) := ⟨_, _, kl_6, by decide, w116, rfl, rfl, rfl⟩
theorem fl_X7_31 : q_fl "WhiteLine$Road" 31 6 6 true (.array .int) := ⟨_, _, kl_6, by decide, w117, rfl, rfl, rfl⟩
theorem fl_X5_71 : q_fl "WhiteLine$Night" 71 6 6 true (.array .int) := ⟨_, _, kl_6, by decide, w118, rfl, rfl, rfl⟩
theorem fl_X0_106 : q_fl "WhiteLine$Driver" 106 6 6 true (.array .int) := ⟨_, _, kl_6, by decide, w119, rfl, rfl, rfl⟩
theorem fl_X11_203 : q_fl "WhiteLine" 203 6 6 true (.array .int) := ⟨_, _, kl_6, by decide, w120, rfl, rfl, rfl⟩
theorem fl_X7_34 : q_fl "WhiteLine$Road" 34 6 7 true (.array .int) := ⟨_, _, kl_6, by decide, w121, rfl, rfl, rfl⟩
theorem fl_X5_74 : q_fl "WhiteLine$Night" 74 6 7 true (.array .int) := ⟨_, _, kl_6, by decide, w122, rfl, rfl, rfl⟩
theorem fl_X0_82 : q_fl "WhiteLine$Driver" 82 6 7 true (.array .int) := ⟨_, _, kl_6, by decide, w123, rfl, rfl, rfl⟩
theorem fl_X7_37 : q_fl "WhiteLine$Road" 37 6 8 true (.array .int) := ⟨_, _, kl_6, by decide, w124, rfl, rfl, rfl⟩
theorem fl_X0_99 : q_fl "WhiteLine$Driver" 99 6 8 true (.array .int) := ⟨_, _, kl_6, by decide, w125, rfl, rfl, rfl⟩
theorem fl_X11_206 : q_fl "WhiteLine" 206 6 8 true (.array .int) := ⟨_, _, kl_6, by decide, w126, rfl, rfl, rfl⟩
theorem fl_X7_40 : q_fl "WhiteLine$Road" 40 6 9 true (.array .boolean) := ⟨_, _, kl_6, by decide, w127, rfl, rfl, rfl⟩
theorem fl_X5_32 : q_fl "WhiteLine$Night" 32 6 9 true (.array .boolean) := ⟨_, _, kl_6, by decide, w128, rfl, rfl, rfl⟩
theorem fl_X11_138 : q_fl "WhiteLine" 138 6 9 true (.array .boolean) := ⟨_, _, kl_6, by decide, w129, rfl, rfl, rfl⟩
theorem fl_X7_44 : q_fl "WhiteLine$Road" 44 6 10 true (.array .int) := ⟨_, _, kl_6, by decide, w130, rfl, rfl, rfl⟩
theorem fl_X5_36 : q_fl "WhiteLine$Night" 36 6 10 true (.array .int) := ⟨_, _, kl_6, by decide, w131, rfl, rfl, rfl⟩
theorem fl_X11_132 : q_fl "WhiteLine" 132 6 10 true (.array .int) := ⟨_, _, kl_6, by decide, w132, rfl, rfl, rfl⟩
theorem fl_X7_47 : q_fl "WhiteLine$Road" 47 6 11 true (.array .int) := ⟨_, _, kl_6, by decide, w133, rfl, rfl, rfl⟩
theorem fl_X5_51 : q_fl "WhiteLine$Night" 51 6 11 true (.array .int) := ⟨_, _, kl_6, by decide, w134, rfl, rfl, rfl⟩
theorem fl_X7_50 : q_fl "WhiteLine$Road" 50 6 12 true (.array .int) := ⟨_, _, kl_6, by decide, w135, rfl, rfl, rfl⟩
theorem fl_X11_142 : q_fl "WhiteLine" 142 6 12 true (.array .int) := ⟨_, _, kl_6, by decide, w136, rfl, rfl, rfl⟩
theorem fl_X7_53 : q_fl "WhiteLine$Road" 53 6 13 true (.array .int) := ⟨_, _, kl_6, by decide, w137, rfl, rfl, rfl⟩
theorem fl_X5_80 : q_fl "WhiteLine$Night" 80 6 13 true (.array .int) := ⟨_, _, kl_6, by decide, w138, rfl, rfl, rfl⟩
theorem fl_X11_145 : q_fl "WhiteLine" 145 6 13 true (.array .int) := ⟨_, _, kl_6, by decide, w139, rfl, rfl, rfl⟩
theorem fl_X7_56 : q_fl "WhiteLine$Road" 56 6 14 true (.array .int) := ⟨_, _, kl_6, by decide, w140, rfl, rfl, rfl⟩
theorem fl_X5_77 : q_fl "WhiteLine$Night" 77 6 14 true (.array .int) := ⟨_, _, kl_6, by decide, w141, rfl, rfl, rfl⟩
theorem fl_X11_148 : q_fl "WhiteLine" 148 6 14 true (.array .int) := ⟨_, _, kl_6, by decide, w142, rfl, rfl, rfl⟩
theorem fl_X7_59 : q_fl "WhiteLine$Road" 59 6 15 false .int := ⟨_, _, kl_6, by decide, w143, rfl, rfl, rfl⟩
theorem fl_X5_48 : q_fl "WhiteLine$Night" 48 6 15 false .int := ⟨_, _, kl_6, by decide, w144, rfl, rfl, rfl⟩
theorem fl_X11_151 : q_fl "WhiteLine" 151 6 15 false .int := ⟨_, _, kl_6, by decide, w145, rfl, rfl, rfl⟩
theorem fl_X7_62 : q_fl "WhiteLine$Road" 62 6 16 false .int := ⟨_, _, kl_6, by decide, w146, rfl, rfl, rfl⟩
theorem fl_X5_96 : q_fl "WhiteLine$Night" 96 6 16 false .int := ⟨_, _, kl_6, by decide, w147, rfl, rfl, rfl⟩
theorem fl_X11_154 : q_fl "WhiteLine" 154 6 16 false .int := ⟨_, _, kl_6, by decide, w148, rfl, rfl, rfl⟩
theorem fl_X7_65 : q_fl "WhiteLine$Road" 65 6 17 false .int := ⟨_, _, kl_6, by decide, w149, rfl, rfl, rfl⟩
theorem fl_X5_9 : q_fl "WhiteLine$Night" 9 6 17 false .int := ⟨_, _, kl_6, by decide, w150, rfl, rfl, rfl⟩
theorem fl_X0_31 : q_fl "WhiteLine$Driver" 31 6 17 false .int := ⟨_, _, kl_6, by decide, w151, rfl, rfl, rfl⟩
theorem fl_X9_29 : q_fl "WhiteLine$Sight" 29 6 17 false .int := ⟨_, _, kl_6, by decide, w152, rfl, rfl, rfl⟩
theorem fl_X11_334 : q_fl "WhiteLine" 334 6 17 false .int := ⟨_, _, kl_6, by decide, w153, rfl, rfl, rfl⟩
theorem fl_X6_9 : q_fl "WhiteLine$Plan" 9 5 0 true (.array .int) := ⟨_, _, kl_5, by decide, w161, rfl, rfl, rfl⟩
theorem fl_X6_15 : q_fl "WhiteLine$Plan" 15 5 1 true (.array .int) := ⟨_, _, kl_5, by decide, w162, rfl, rfl, rfl⟩
theorem fl_X6_18 : q_fl "WhiteLine$Plan" 18 5 2 true (.array .int) := ⟨_, _, kl_5, by decide, w163, rfl, rfl, rfl⟩
theorem fl_X6_21 : q_fl "WhiteLine$Plan" 21 5 3 false .int := ⟨_, _, kl_5, by decide, w164, rfl, rfl, rfl⟩
theorem fl_X11_257 : q_fl "WhiteLine" 257 5 3 false .int := ⟨_, _, kl_5, by decide, w165, rfl, rfl, rfl⟩
theorem fl_X6_25 : q_fl "WhiteLine$Plan" 25 5 4 false .int := ⟨_, _, kl_5, by decide, w166, rfl, rfl, rfl⟩
theorem fl_X11_275 : q_fl "WhiteLine" 275 5 4 false .int := ⟨_, _, kl_5, by decide, w167, rfl, rfl, rfl⟩
theorem fl_X6_28 : q_fl "WhiteLine$Plan" 28 5 5 false .int := ⟨_, _, kl_5, by decide, w168, rfl, rfl, rfl⟩
theorem fl_X11_263 : q_fl "WhiteLine" 263 5 5 false .int := ⟨_, _, kl_5, by decide, w169, rfl, rfl, rfl⟩
theorem fl_X6_31 : q_fl "WhiteLine$Plan" 31 5 6 false .int := ⟨_, _, kl_5, by decide, w170, rfl, rfl, rfl⟩
theorem fl_X11_272 : q_fl "WhiteLine" 272 5 6 false .int := ⟨_, _, kl_5, by decide, w171, rfl, rfl, rfl⟩
theorem fl_X1_11 : q_fl "WhiteLine$Fit" 11 1 0 true (.array .int) := ⟨_, _, kl_1, by decide, w178, rfl, rfl, rfl⟩
theorem fl_X1_15 : q_fl "WhiteLine$Fit" 15 1 1 true (.array .int) := ⟨_, _, kl_1, by decide, w179, rfl, rfl, rfl⟩
theorem fl_X1_18 : q_fl "WhiteLine$Fit" 18 1 2 true (.array .int) := ⟨_, _, kl_1, by decide, w180, rfl, rfl, rfl⟩
theorem fl_X1_21 : q_fl "WhiteLine$Fit" 21 1 3 true (.array .int) := ⟨_, _, kl_1, by decide, w181, rfl, rfl, rfl⟩
theorem fl_X1_24 : q_fl "WhiteLine$Fit" 24 1 4 true (.array .int) := ⟨_, _, kl_1, by decide, w182, rfl, rfl, rfl⟩
theorem fl_X11_219 : q_fl "WhiteLine" 219 1 4 true (.array .int) := ⟨_, _, kl_1, by decide, w183, rfl, rfl, rfl⟩
theorem fl_X0_9 : q_fl "WhiteLine$Driver" 9 0 0 true (.array .boolean) := ⟨_, _, kl_0, by decide, w190, rfl, rfl, rfl⟩
theorem fl_X0_15 : q_fl "WhiteLine$Driver" 15 0 1 false .int := ⟨_, _, kl_0, by decide, w191, rfl, rfl, rfl⟩
theorem fl_X11_325 : q_fl "WhiteLine" 325 0 1 false .int := ⟨_, _, kl_0, by decide, w192, rfl, rfl, rfl⟩
theorem fl_X0_19 : q_fl "WhiteLine$Driver" 19 0 2 false .int := ⟨_, _, kl_0, by decide, w193, rfl, rfl, rfl⟩
theorem fl_X11_328 : q_fl "WhiteLine" 328 0 2 false .int := ⟨_, _, kl_0, by decide, w194, rfl, rfl, rfl⟩
theorem fl_X0_22 : q_fl "WhiteLine$Driver" 22 0 3 false .int := ⟨_, _, kl_0, by decide, w195, rfl, rfl, rfl⟩
theorem fl_X11_331 : q_fl "WhiteLine" 331 0 3 false .int := ⟨_, _, kl_0, by decide, w196, rfl, rfl, rfl⟩
theorem fl_X10_11 : q_fl "WhiteLine$Stretches" 11 8 0 true (.array (.array .int)) := ⟨_, _, kl_8, by decide, w204, rfl, rfl, rfl⟩
theorem fl_X10_16 : q_fl "WhiteLine$Stretches" 16 8 1 true (.array .int) := ⟨_, _, kl_8, by decide, w205, rfl, rfl, rfl⟩
theorem fl_X11_319 : q_fl "WhiteLine" 319 8 1 true (.array .int) := ⟨_, _, kl_8, by decide, w206, rfl, rfl, rfl⟩
theorem fl_X2_9 : q_fl "WhiteLine$Lane" 9 2 0 false .int := ⟨_, _, kl_2, by decide, w213, rfl, rfl, rfl⟩
theorem fl_X2_15 : q_fl "WhiteLine$Lane" 15 2 1 true (.array .int) := ⟨_, _, kl_2, by decide, w214, rfl, rfl, rfl⟩
theorem fl_X2_19 : q_fl "WhiteLine$Lane" 19 2 2 true (.array .int) := ⟨_, _, kl_2, by decide, w215, rfl, rfl, rfl⟩
theorem fl_X2_22 : q_fl "WhiteLine$Lane" 22 2 3 true (.array .int) := ⟨_, _, kl_2, by decide, w216, rfl, rfl, rfl⟩
theorem fl_X11_9 : q_fl "WhiteLine" 9 9 0 true (.array .int) := ⟨_, _, kl_9, by decide, w218, rfl, rfl, rfl⟩
theorem fl_X11_13 : q_fl "WhiteLine" 13 9 1 false .int := ⟨_, _, kl_9, by decide, w219, rfl, rfl, rfl⟩
theorem fl_X11_20 : q_fl "WhiteLine" 20 9 2 true (.object "WhiteLine$RowReader") := ⟨_, _, kl_9, by decide, w220, rfl, rfl, rfl⟩
theorem fl_X11_27 : q_fl "WhiteLine" 27 9 3 true (.object "WhiteLine$LawReader") := ⟨_, _, kl_9, by decide, w221, rfl, rfl, rfl⟩
theorem fl_X11_34 : q_fl "WhiteLine" 34 9 4 false (.object "WhiteLine$Law") := ⟨_, _, kl_9, by decide, w222, rfl, rfl, rfl⟩
theorem fl_X11_41 : q_fl "WhiteLine" 41 9 5 true (.object "WhiteLine$Road") := ⟨_, _, kl_9, by decide, w223, rfl, rfl, rfl⟩
theorem fl_X11_45 : q_fl "WhiteLine" 45 9 6 true (.object "WhiteLine$Road") := ⟨_, _, kl_9, by decide, w224, rfl, rfl, rfl⟩
theorem fl_X11_48 : q_fl "WhiteLine" 48 9 7 true (.object "WhiteLine$Road") := ⟨_, _, kl_9, by decide, w225, rfl, rfl, rfl⟩
theorem fl_X11_51 : q_fl "WhiteLine" 51 9 8 false .boolean := ⟨_, _, kl_9, by decide, w226, rfl, rfl, rfl⟩
theorem fl_X11_58 : q_fl "WhiteLine" 58 9 9 true (.object "WhiteLine$Plan") := ⟨_, _, kl_9, by decide, w227, rfl, rfl, rfl⟩
theorem fl_X11_65 : q_fl "WhiteLine" 65 9 10 true (.object "WhiteLine$Fit") := ⟨_, _, kl_9, by decide, w228, rfl, rfl, rfl⟩
theorem fl_X11_72 : q_fl "WhiteLine" 72 9 11 true (.object "WhiteLine$Driver") := ⟨_, _, kl_9, by decide, w229, rfl, rfl, rfl⟩
theorem fl_X11_79 : q_fl "WhiteLine" 79 9 12 true (.object "WhiteLine$Stretches") := ⟨_, _, kl_9, by decide, w230, rfl, rfl, rfl⟩
theorem fl_X11_86 : q_fl "WhiteLine" 86 9 13 true (.object "WhiteLine$Lane") := ⟨_, _, kl_9, by decide, w231, rfl, rfl, rfl⟩
theorem fl_X12_7 : q_fl "WhiteLineModel" 7 10 0 true (.array .int) := ⟨_, _, kl_10, by decide, w783, rfl, rfl, rfl⟩
theorem fl_X12_13 : q_fl "WhiteLineModel" 13 10 1 true (.array .int) := ⟨_, _, kl_10, by decide, w784, rfl, rfl, rfl⟩
theorem fl_X12_16 : q_fl "WhiteLineModel" 16 10 2 true (.array .int) := ⟨_, _, kl_10, by decide, w785, rfl, rfl, rfl⟩
theorem fl_X12_19 : q_fl "WhiteLineModel" 19 10 3 true (.array .byte) := ⟨_, _, kl_10, by decide, w786, rfl, rfl, rfl⟩
theorem fl_X12_119 : q_fl "WhiteLineModel" 119 10 4 false .int := ⟨_, _, kl_10, by decide, w787, rfl, rfl, rfl⟩
theorem fl_X12_126 : q_fl "WhiteLineModel" 126 10 5 false .int := ⟨_, _, kl_10, by decide, w788, rfl, rfl, rfl⟩
theorem fl_X12_129 : q_fl "WhiteLineModel" 129 10 6 false .int := ⟨_, _, kl_10, by decide, w789, rfl, rfl, rfl⟩
theorem fl_X12_136 : q_fl "WhiteLineModel" 136 10 7 false .int := ⟨_, _, kl_10, by decide, w790, rfl, rfl, rfl⟩
theorem fl_X12_143 : q_fl "WhiteLineModel" 143 10 8 false .int := ⟨_, _, kl_10, by decide, w791, rfl, rfl, rfl⟩
theorem fl_X12_154 : q_fl "WhiteLineModel" 154 10 9 false .int := ⟨_, _, kl_10, by decide, w792, rfl, rfl, rfl⟩
theorem fl_X12_150 : q_fl "WhiteLineModel" 150 10 10 false .int := ⟨_, _, kl_10, by decide, w793, rfl, rfl, rfl⟩
theorem fl_X12_157 : q_fl "WhiteLineModel" 157 10 11 false .int := ⟨_, _, kl_10, by decide, w794, rfl, rfl, rfl⟩
theorem fl_X12_224 : q_fl "WhiteLineModel" 224 10 12 false .int := ⟨_, _, kl_10, by decide, w795, rfl, rfl, rfl⟩
theorem fl_X12_233 : q_fl "WhiteLineModel" 233 10 13 false .int := ⟨_, _, kl_10, by decide, w796, rfl, rfl, rfl⟩
theorem fl_X12_208 : q_fl "WhiteLineModel" 208 10 14 false .int := ⟨_, _, kl_10, by decide, w797, rfl, rfl, rfl⟩
theorem fl_X12_23 : q_fl "WhiteLineModel" 23 10 15 true (.array .int) := ⟨_, _, kl_10, by decide, w798, rfl, rfl, rfl⟩
theorem fl_X12_26 : q_fl "WhiteLineModel" 26 10 16 true (.array .int) := ⟨_, _, kl_10, by decide, w799, rfl, rfl, rfl⟩
theorem fl_X12_29 : q_fl "WhiteLineModel" 29 10 17 true (.array .int) := ⟨_, _, kl_10, by decide, w800, rfl, rfl, rfl⟩
theorem fl_X12_32 : q_fl "WhiteLineModel" 32 10 18 true (.array .int) := ⟨_, _, kl_10, by decide, w801, rfl, rfl, rfl⟩
theorem fl_X12_35 : q_fl "WhiteLineModel" 35 10 19 true (.array .int) := ⟨_, _, kl_10, by decide, w802, rfl, rfl, rfl⟩
theorem fl_X12_38 : q_fl "WhiteLineModel" 38 10 20 true (.array .int) := ⟨_, _, kl_10, by decide, w803, rfl, rfl, rfl⟩
theorem fl_X12_41 : q_fl "WhiteLineModel" 41 10 21 true (.array .int) := ⟨_, _, kl_10, by decide, w804, rfl, rfl, rfl⟩
theorem fl_X12_44 : q_fl "WhiteLineModel" 44 10 22 true (.array .int) := ⟨_, _, kl_10, by decide, w805, rfl, rfl, rfl⟩
theorem fl_X12_47 : q_fl "WhiteLineModel" 47 10 23 true (.array .int) := ⟨_, _, kl_10, by decide, w806, rfl, rfl, rfl⟩
theorem fl_X12_50 : q_fl "WhiteLineModel" 50 10 24 true (.array .int) := ⟨_, _, kl_10, by decide, w807, rfl, rfl, rfl⟩
theorem fl_X12_53 : q_fl "WhiteLineModel" 53 10 25 true (.array .int) := ⟨_, _, kl_10, by decide, w808, rfl, rfl, rfl⟩
theorem fl_X12_56 : q_fl "WhiteLineModel" 56 10 26 true (.array .int) := ⟨_, _, kl_10, by decide, w809, rfl, rfl, rfl⟩
theorem fl_X12_59 : q_fl "WhiteLineModel" 59 10 27 true (.array .int) := ⟨_, _, kl_10, by decide, w810, rfl, rfl, rfl⟩
theorem fl_X12_62 : q_fl "WhiteLineModel" 62 10 28 true (.array .int) := ⟨_, _, kl_10, by decide, w811, rfl, rfl, rfl⟩
theorem fl_X12_278 : q_fl "WhiteLineModel" 278 10 29 false .int := ⟨_, _, kl_10, by decide, w812, rfl, rfl, rfl⟩
theorem fl_X12_65 : q_fl "WhiteLineModel" 65 10 30 true (.array .int) := ⟨_, _, kl_10, by decide, w813, rfl, rfl, rfl⟩
theorem fl_X12_68 : q_fl "WhiteLineModel" 68 10 31 true (.array .int) := ⟨_, _, kl_10, by decide, w814, rfl, rfl, rfl⟩
theorem fl_X12_71 : q_fl "WhiteLineModel" 71 10 32 true (.array .int) := ⟨_, _, kl_10, by decide, w815, rfl, rfl, rfl⟩
theorem fl_X12_74 : q_fl "WhiteLineModel" 74 10 33 true (.array .int) := ⟨_, _, kl_10, by decide, w816, rfl, rfl, rfl⟩
theorem fl_X12_77 : q_fl "WhiteLineModel" 77 10 34 true (.array .int) := ⟨_, _, kl_10, by decide, w817, rfl, rfl, rfl⟩
theorem fl_X12_80 : q_fl "WhiteLineModel" 80 10 35 true (.array .int) := ⟨_, _, kl_10, by decide, w818, rfl, rfl, rfl⟩
theorem fl_X12_83 : q_fl "WhiteLineModel" 83 10 36 true (.array .int) := ⟨_, _, kl_10, by decide, w819, rfl, rfl, rfl⟩
theorem fl_X12_86 : q_fl "WhiteLineModel" 86 10 37 true (.array .int) := ⟨_, _, kl_10, by decide, w820, rfl, rfl, rfl⟩
theorem fl_X12_89 : q_fl "WhiteLineModel" 89 10 38 true (.array .int) := ⟨_, _, kl_10, by decide, w821, rfl, rfl, rfl⟩
theorem fl_X12_356 : q_fl "WhiteLineModel" 356 10 39 false .int := ⟨_, _, kl_10, by decide, w822, rfl, rfl, rfl⟩
theorem fl_X12_359 : q_fl "WhiteLineModel" 359 10 40 false .int := ⟨_, _, kl_10, by decide, w823, rfl, rfl, rfl⟩
theorem fl_X12_362 : q_fl "WhiteLineModel" 362 10 41 false .int := ⟨_, _, kl_10, by decide, w824, rfl, rfl, rfl⟩
theorem fl_X12_365 : q_fl "WhiteLineModel" 365 10 42 false .int := ⟨_, _, kl_10, by decide, w825, rfl, rfl, rfl⟩
theorem fl_X12_92 : q_fl "WhiteLineModel" 92 10 43 true (.array .int) := ⟨_, _, kl_10, by decide, w826, rfl, rfl, rfl⟩
theorem fl_X12_95 : q_fl "WhiteLineModel" 95 10 44 true (.array .int) := ⟨_, _, kl_10, by decide, w827, rfl, rfl, rfl⟩
theorem fl_X12_427 : q_fl "WhiteLineModel" 427 10 45 false .boolean := ⟨_, _, kl_10, by decide, w828, rfl, rfl, rfl⟩
theorem ff_0_0 : q_f 0 0 = (1, 211, 64) := rfl
theorem ff_0_1 : q_f 0 1 = (0, (-2147483648), 2147483647) := rfl
theorem ff_0_2 : q_f 0 2 = (0, (-2147483648), 2147483647) := rfl
theorem ff_0_3 : q_f 0 3 = (0, (-2147483648), 2147483647) := rfl
theorem ff_1_0 : q_f 1 0 = (1, 132, 61) := rfl
theorem ff_1_1 : q_f 1 1 = (1, 133, 61) := rfl
theorem ff_1_2 : q_f 1 2 = (1, 134, 64) := rfl
theorem ff_1_3 : q_f 1 3 = (1, 135, 64) := rfl
theorem ff_1_4 : q_f 1 4 = (1, 136, 64) := rfl
theorem ff_2_0 : q_f 2 0 = (0, 0, 20) := rfl
theorem ff_2_1 : q_f 2 1 = (1, 137, 20) := rfl
theorem ff_2_2 : q_f 2 2 = (1, 138, 20) := rfl
theorem ff_2_3 : q_f 2 3 = (1, 139, 2) := rfl
theorem ff_3_0 : q_f 3 0 = (0, 0, 16) := rfl
theorem ff_3_1 : q_f 3 1 = (0, 0, 240) := rfl
theorem ff_3_2 : q_f 3 2 = (0, 0, 1) := rfl
theorem ff_3_3 : q_f 3 3 = (1, 112, 240) := rfl
theorem ff_3_4 : q_f 3 4 = (1, 113, 240) := rfl
theorem ff_3_5 : q_f 3 5 = (1, 114, 16) := rfl
theorem ff_3_6 : q_f 3 6 = (1, 115, 16) := rfl
theorem ff_3_7 : q_f 3 7 = (1, 116, 16) := rfl
theorem ff_3_8 : q_f 3 8 = (1, 117, 32) := rfl
theorem ff_3_9 : q_f 3 9 = (0, 0, 32) := rfl
theorem ff_3_10 : q_f 3 10 = (0, 0, 1) := rfl
theorem ff_3_11 : q_f 3 11 = (2, 0, 0) := rfl
theorem ff_3_12 : q_f 3 12 = (0, (-2147483648), 2147483647) := rfl
theorem ff_3_13 : q_f 3 13 = (0, (-2147483648), 2147483647) := rfl
theorem ff_3_14 : q_f 3 14 = (0, (-2147483648), 2147483647) := rfl
theorem ff_3_15 : q_f 3 15 = (0, (-2147483648), 2147483647) := rfl
theorem ff_4_0 : q_f 4 0 = (2, 0, 0) := rfl
theorem ff_4_1 : q_f 4 1 = (0, 0, 260) := rfl
theorem ff_4_2 : q_f 4 2 = (0, (-2147483648), 2147483647) := rfl
theorem ff_4_3 : q_f 4 3 = (0, (-2147483648), 2147483647) := rfl
theorem ff_4_4 : q_f 4 4 = (1, 3, 1) := rfl
theorem ff_5_0 : q_f 5 0 = (1, 129, 64) := rfl
theorem ff_5_1 : q_f 5 1 = (1, 130, 64) := rfl
theorem ff_5_2 : q_f 5 2 = (1, 131, 2) := rfl
theorem ff_5_3 : q_f 5 3 = (0, (-2147483648), 2147483647) := rfl
theorem ff_5_4 : q_f 5 4 = (0, (-2147483648), 2147483647) := rfl
theorem ff_5_5 : q_f 5 5 = (0, (-2147483648), 2147483647) := rfl
theorem ff_5_6 : q_f 5 6 = (0, (-2147483648), 2147483647) := rfl
theorem ff_6_0 : q_f 6 0 = (0, 8, 64) := rfl
theorem ff_6_1 : q_f 6 1 = (1, 118, 64) := rfl
theorem ff_6_2 : q_f 6 2 = (1, 118, 64) := rfl
theorem ff_6_3 : q_f 6 3 = (1, 118, 64) := rfl
theorem ff_6_4 : q_f 6 4 = (1, 119, 64) := rfl
theorem ff_6_5 : q_f 6 5 = (1, 120, 64) := rfl
theorem ff_6_6 : q_f 6 6 = (1, 121, 64) := rfl
theorem ff_6_7 : q_f 6 7 = (1, 122, 64) := rfl
theorem ff_6_8 : q_f 6 8 = (1, 123, 64) := rfl
theorem ff_6_9 : q_f 6 9 = (1, 210, 2) := rfl
theorem ff_6_10 : q_f 6 10 = (1, 124, 2) := rfl
theorem ff_6_11 : q_f 6 11 = (1, 125, 2) := rfl
theorem ff_6_12 : q_f 6 12 = (1, 126, 2) := rfl
theorem ff_6_13 : q_f 6 13 = (1, 127, 12) := rfl
theorem ff_6_14 : q_f 6 14 = (1, 128, 12) := rfl
theorem ff_6_15 : q_f 6 15 = (0, (-2147483648), 2147483647) := rfl
theorem ff_6_16 : q_f 6 16 = (0, (-2147483648), 2147483647) := rfl
theorem ff_6_17 : q_f 6 17 = (0, (-2147483648), 2147483647) := rfl
theorem ff_7_0 : q_f 7 0 = (1, 111, 64) := rfl
theorem ff_7_1 : q_f 7 1 = (2, 0, 0) := rfl
theorem ff_7_2 : q_f 7 2 = (0, 0, 260) := rfl
theorem ff_7_3 : q_f 7 3 = (0, (-2147483648), 2147483647) := rfl
theorem ff_7_4 : q_f 7 4 = (0, 0, 64) := rfl
theorem ff_7_5 : q_f 7 5 = (0, (-2147483648), 2147483647) := rfl
theorem ff_8_0 : q_f 8 0 = (1, 400, 5) := rfl
theorem ff_8_1 : q_f 8 1 = (1, 141, 4) := rfl
theorem ff_9_0 : q_f 9 0 = (1, 110, 260) := rfl
theorem ff_9_1 : q_f 9 1 = (0, 0, 260) := rfl
theorem ff_9_2 : q_f 9 2 = (1, 7, 1) := rfl
theorem ff_9_3 : q_f 9 3 = (1, 4, 1) := rfl
theorem ff_9_4 : q_f 9 4 = (1, 3, 1) := rfl
theorem ff_9_5 : q_f 9 5 = (1, 6, 1) := rfl
theorem ff_9_6 : q_f 9 6 = (1, 6, 1) := rfl
theorem ff_9_7 : q_f 9 7 = (1, 6, 1) := rfl
theorem ff_9_8 : q_f 9 8 = (0, 0, 1) := rfl
theorem ff_9_9 : q_f 9 9 = (1, 5, 1) := rfl
theorem ff_9_10 : q_f 9 10 = (1, 1, 1) := rfl
theorem ff_9_11 : q_f 9 11 = (1, 0, 1) := rfl
theorem ff_9_12 : q_f 9 12 = (1, 8, 1) := rfl
theorem ff_9_13 : q_f 9 13 = (1, 2, 1) := rfl
theorem ff_10_0 : q_f 10 0 = (1, 100, 549) := rfl
theorem ff_10_1 : q_f 10 1 = (1, 101, 549) := rfl
theorem ff_10_2 : q_f 10 2 = (1, 102, 549) := rfl
theorem ff_10_3 : q_f 10 3 = (1, 310, 260) := rfl
theorem ff_10_4 : q_f 10 4 = (0, 0, 260) := rfl
theorem ff_10_5 : q_f 10 5 = (0, 0, 260) := rfl
theorem ff_10_6 : q_f 10 6 = (0, 0, 260) := rfl
theorem ff_10_7 : q_f 10 7 = (0, (-2147483648), 2147483647) := rfl
theorem ff_10_8 : q_f 10 8 = (0, (-2147483648), 2147483647) := rfl
theorem ff_10_9 : q_f 10 9 = (0, (-2147483648), 2147483647) := rfl
theorem ff_10_10 : q_f 10 10 = (0, 0, 260) := rfl
theorem ff_10_11 : q_f 10 11 = (0, 0, 260) := rfl
theorem ff_10_12 : q_f 10 12 = (0, 0, 16) := rfl
theorem ff_10_13 : q_f 10 13 = (0, 0, 16) := rfl
theorem ff_10_14 : q_f 10 14 = (0, 0, 64) := rfl
theorem ff_10_15 : q_f 10 15 = (1, 150, 260) := rfl
theorem ff_10_16 : q_f 10 16 = (1, 151, 260) := rfl
theorem ff_10_17 : q_f 10 17 = (1, 152, 16) := rfl
theorem ff_10_18 : q_f 10 18 = (1, 153, 16) := rfl
theorem ff_10_19 : q_f 10 19 = (1, 154, 16) := rfl
theorem ff_10_20 : q_f 10 20 = (1, 155, 16) := rfl
theorem ff_10_21 : q_f 10 21 = (1, 156, 260) := rfl
theorem ff_10_22 : q_f 10 22 = (1, 157, 16) := rfl
theorem ff_10_23 : q_f 10 23 = (1, 158, 16) := rfl
theorem ff_10_24 : q_f 10 24 = (1, 159, 16) := rfl
theorem ff_10_25 : q_f 10 25 = (1, 160, 16) := rfl
theorem ff_10_26 : q_f 10 26 = (1, 161, 64) := rfl
theorem ff_10_27 : q_f 10 27 = (1, 162, 260) := rfl
theorem ff_10_28 : q_f 10 28 = (1, 163, 9) := rfl
theorem ff_10_29 : q_f 10 29 = (0, (-2147483648), 2147483647) := rfl
theorem ff_10_30 : q_f 10 30 = (1, 164, 3904) := rfl
theorem ff_10_31 : q_f 10 31 = (1, 165, 64) := rfl
theorem ff_10_32 : q_f 10 32 = (1, 166, 64) := rfl
theorem ff_10_33 : q_f 10 33 = (1, 167, 64) := rfl
theorem ff_10_34 : q_f 10 34 = (1, 168, 64) := rfl
theorem ff_10_35 : q_f 10 35 = (1, 169, 64) := rfl
theorem ff_10_36 : q_f 10 36 = (1, 170, 64) := rfl
theorem ff_10_37 : q_f 10 37 = (1, 171, 2) := rfl
theorem ff_10_38 : q_f 10 38 = (1, 172, 2) := rfl
theorem ff_10_39 : q_f 10 39 = (0, 0, 64) := rfl
theorem ff_10_40 : q_f 10 40 = (0, (-1), 63) := rfl
theorem ff_10_41 : q_f 10 41 = (0, (-2147483648), 2147483647) := rfl
theorem ff_10_42 : q_f 10 42 = (0, (-2147483648), 2147483647) := rfl
theorem ff_10_43 : q_f 10 43 = (1, 173, 325) := rfl
theorem ff_10_44 : q_f 10 44 = (1, 174, 4) := rfl
theorem ff_10_45 : q_f 10 45 = (0, 0, 1) := rfl
def q_ki (k t : Nat) (lo hi : Int) : Prop := 100 ≤ k ∧ q_ak k = t ∧ ∀ j, q_f k j = (0, lo, hi)
theorem ai_101 : q_ki 101 0 (-2147483648) 2147483647 := ⟨by decide, by decide, fun _ => rfl⟩
theorem ai_102 : q_ki 102 0 (-2147483648) 2147483647 := ⟨by decide, by decide, fun _ => rfl⟩
theorem ai_110 : q_ki 110 0 0 255 := ⟨by decide, by decide, fun _ => rfl⟩
theorem ai_111 : q_ki 111 0 (-2147483648) 2147483647 := ⟨by decide, by decide, fun _ => rfl⟩
theorem ai_112 : q_ki 112 0 (-2147483648) 2147483647 := ⟨by decide, by decide, fun _ => rfl⟩
theorem ai_113 : q_ki 113 0 (-2147483648) 2147483647 := ⟨by decide, by decide, fun _ => rfl⟩
theorem ai_114 : q_ki 114 0 (-2147483648) 2147483647 := ⟨by decide, by decide, fun _ => rfl⟩
theorem ai_115 : q_ki 115 0 (-2147483648) 2147483647 := ⟨by decide, by decide, fun _ => rfl⟩
theorem ai_116 : q_ki 116 0 (-2147483648) 2147483647 := ⟨by decide, by decide, fun _ => rfl⟩
theorem ai_117 : q_ki 117 0 (-2147483648) 2147483647 := ⟨by decide, by decide, fun _ => rfl⟩
theorem ai_118 : q_ki 118 0 (-2147483648) 2147483647 := ⟨by decide, by decide, fun _ => rfl⟩
theorem ai_119 : q_ki 119 0 (-2147483648) 2147483647 := ⟨by decide, by decide, fun _ => rfl⟩
theorem ai_120 : q_ki 120 0 (-2147483648) 2147483647 := ⟨by decide, by decide, fun _ => rfl⟩
theorem ai_121 : q_ki 121 0 (-2147483648) 2147483647 := ⟨by decide, by decide, fun _ => rfl⟩
theorem ai_122 : q_ki 122 0 (-2147483648) 2147483647 := ⟨by decide, by decide, fun _ => rfl⟩
theorem ai_123 : q_ki 123 0 (-2147483648) 2147483647 := ⟨by decide, by decide, fun _ => rfl⟩
theorem ai_124 : q_ki 124 0 (-2) 63 := ⟨by decide, by decide, fun _ => rfl⟩
theorem ai_125 : q_ki 125 0 (-2147483648) 2147483647 := ⟨by decide, by decide, fun _ => rfl⟩
theorem ai_126 : q_ki 126 0 (-2147483648) 2147483647 := ⟨by decide, by decide, fun _ => rfl⟩
theorem ai_127 : q_ki 127 0 (-2147483648) 2147483647 := ⟨by decide, by decide, fun _ => rfl⟩
theorem ai_128 : q_ki 128 0 (-2147483648) 2147483647 := ⟨by decide, by decide, fun _ => rfl⟩
theorem ai_129 : q_ki 129 0 (-2147483648) 2147483647 := ⟨by decide, by decide, fun _ => rfl⟩
theorem ai_130 : q_ki 130 0 (-2147483648) 2147483647 := ⟨by decide, by decide, fun _ => rfl⟩
theorem ai_131 : q_ki 131 0 (-2147483648) 2147483647 := ⟨by decide, by decide, fun _ => rfl⟩
theorem ai_132 : q_ki 132 0 (-2147483648) 2147483647 := ⟨by decide, by decide, fun _ => rfl⟩
theorem ai_133 : q_ki 133 0 (-2147483648) 2147483647 := ⟨by decide, by decide, fun _ => rfl⟩
theorem ai_134 : q_ki 134 0 0 60 := ⟨by decide, by decide, fun _ => rfl⟩
theorem ai_135 : q_ki 135 0 (-2147483648) 2147483647 := ⟨by decide, by decide, fun _ => rfl⟩
theorem ai_136 : q_ki 136 0 (-2147483648) 2147483647 := ⟨by decide, by decide, fun _ => rfl⟩
theorem ai_137 : q_ki 137 0 (-2147483648) 2147483647 := ⟨by decide, by decide, fun _ => rfl⟩
theorem ai_138 : q_ki 138 0 (-2147483648) 2147483647 := ⟨by decide, by decide, fun _ => rfl⟩
theorem ai_139 : q_ki 139 0 (-2147483648) 2147483647 := ⟨by decide, by decide, fun _ => rfl⟩
theorem ai_140 : q_ki 140 0 (-2147483648) 2147483647 := ⟨by decide, by decide, fun _ => rfl⟩
theorem ai_141 : q_ki 141 0 (-2147483648) 2147483647 := ⟨by decide, by decide, fun _ => rfl⟩
theorem ai_150 : q_ki 150 0 (-2147483648) 2147483647 := ⟨by decide, by decide, fun _ => rfl⟩
theorem ai_151 : q_ki 151 0 (-2147483648) 2147483647 := ⟨by decide, by decide, fun _ => rfl⟩
theorem ai_152 : q_ki 152 0 (-2147483648) 2147483647 := ⟨by decide, by decide, fun _ => rfl⟩
theorem ai_153 : q_ki 153 0 (-2147483648) 2147483647 := ⟨by decide, by decide, fun _ => rfl⟩
theorem ai_154 : q_ki 154 0 (-2147483648) 2147483647 := ⟨by decide, by decide, fun _ => rfl⟩
theorem ai_155 : q_ki 155 0 (-2147483648) 2147483647 := ⟨by decide, by decide, fun _ => rfl⟩
theorem ai_156 : q_ki 156 0 (-2147483648) 2147483647 := ⟨by decide, by decide, fun _ => rfl⟩
theorem ai_157 : q_ki 157 0 (-2147483648) 2147483647 := ⟨by decide, by decide, fun _ => rfl⟩
theorem ai_158 : q_ki 158 0 (-2147483648) 2147483647 := ⟨by decide, by decide, fun _ => rfl⟩
theorem ai_159 : q_ki 159 0 (-2147483648) 2147483647 := ⟨by decide, by decide, fun _ => rfl⟩
theorem ai_160 : q_ki 160 0 (-2147483648) 2147483647 := ⟨by decide, by decide, fun _ => rfl⟩
theorem ai_161 : q_ki 161 0 (-99) 99 := ⟨by decide, by decide, fun _ => rfl⟩
theorem ai_162 : q_ki 162 0 (-2147483648) 2147483647 := ⟨by decide, by decide, fun _ => rfl⟩
theorem ai_163 : q_ki 163 0 (-2147483648) 2147483647 := ⟨by decide, by decide, fun _ => rfl⟩
theorem ai_164 : q_ki 164 0 (-2147483648) 2147483647 := ⟨by decide, by decide, fun _ => rfl⟩
theorem ai_165 : q_ki 165 0 (-2147483648) 2147483647 := ⟨by decide, by decide, fun _ => rfl⟩
theorem ai_166 : q_ki 166 0 (-2147483648) 2147483647 := ⟨by decide, by decide, fun _ => rfl⟩
theorem ai_167 : q_ki 167 0 (-2147483648) 2147483647 := ⟨by decide, by decide, fun _ => rfl⟩
theorem ai_168 : q_ki 168 0 (-2147483648) 2147483647 := ⟨by decide, by decide, fun _ => rfl⟩
theorem ai_169 : q_ki 169 0 (-2147483648) 2147483647 := ⟨by decide, by decide, fun _ => rfl⟩
theorem ai_170 : q_ki 170 0 (-2147483648) 2147483647 := ⟨by decide, by decide, fun _ => rfl⟩
theorem ai_171 : q_ki 171 0 (-1) 63 := ⟨by decide, by decide, fun _ => rfl⟩
theorem ai_172 : q_ki 172 0 (-2147483648) 2147483647 := ⟨by decide, by decide, fun _ => rfl⟩
theorem ai_173 : q_ki 173 0 (-2147483648) 2147483647 := ⟨by decide, by decide, fun _ => rfl⟩
theorem ai_174 : q_ki 174 0 (-2147483648) 2147483647 := ⟨by decide, by decide, fun _ => rfl⟩
theorem ai_210 : q_ki 210 1 0 1 := ⟨by decide, by decide, fun _ => rfl⟩
theorem ai_211 : q_ki 211 1 0 1 := ⟨by decide, by decide, fun _ => rfl⟩
theorem ai_310 : q_ki 310 2 (-128) 127 := ⟨by decide, by decide, fun _ => rfl⟩
