/-! test -/
theorem q_neT {τ : q_T} {b c : Nat} {x y : Nat × Nat} (hb : τ b = some x) (hc : τ c = some y) (h : x ≠ y) : b ≠ c := fun e => by
  rw [e, hc] at hb
  exact h (Option.some.inj hb).symm
theorem zz_ref {τ : q_T} {σ : q_V} {a k j b k2 n2 : Nat} (hI : q_I τ σ) (hT : τ a = some (k, 1)) (hj : j < q_lim k 1) (hb : σ a j = .ref b) (ht : q_f k j = (1, (k2 : Int), (n2 : Int))) : τ b = some (k2, n2) := by
  obtain ⟨b2, e1, e2⟩ := (hI a k 1 hT j hj).ref ht
  rw [hb] at e1
  cases e1
  exact e2
theorem zz_rng {τ : q_T} {t : Nat × Int × Int} {v : Value} {x : Int32} {lo hi : Int} (h : q_v τ t v) (ht : t = (0, lo, hi)) (hx : v = .int x) : q_r x lo hi := by
  obtain ⟨y, e1, e2⟩ := h.int ht
  rw [hx] at e1
  cases e1
  exact e2
theorem zz_eqI {v : Value} {x y : Int32} (h1 : v = .int x) (h2 : v = .int y) : x.toInt = y.toInt := by
  rw [h1] at h2
  cases h2
  rfl
theorem zz_N {σ : q_V} {a j : Nat} {x : Int32} (h : σ a j = .int x) : fx_N σ a j = x.toInt := by
  unfold fx_N
  rw [h]
  rfl
theorem zz_NR {σ : q_V} {a j b : Nat} (h : σ a j = .ref b) : fx_N σ a j = (b : Int) := by
  unfold fx_N
  rw [h]
  rfl
theorem zz_Na {md : List (Nat × Nat)} {τ : q_T} {σ σ1 : q_V} {b k n j : Nat} (hF : q_F md τ σ σ1) (hT : τ b = some (k, n)) (hk : 100 ≤ k) (hm : md.contains (k, 0) = false) : fx_N σ1 b j = fx_N σ b j := congrArg fx_num (hF.arr hT hk hm)
theorem zz_tc.keep {md : List (Nat × Nat)} {τ : q_T} {σ σ1 : q_V} {ta tb : Nat} {n : Int} (h : zz_tc (fx_N σ) (fx_N σ) ta tb n) (hF : q_F md τ σ σ1) (Ta : τ ta = some (110, 260)) (Tb : τ tb = some (310, 260)) (m1 : md.contains (110, 0) = false) (m2 : md.contains (310, 0) = false) : zz_tc (fx_N σ1) (fx_N σ1) ta tb n := fun i hi => by
  rw [zz_Na hF Ta (by decide) m1, zz_Na hF Tb (by decide) m2]
  exact h i hi
theorem zz_tc.less {u v : fx_U} {ta tb : Nat} {n m : Int} (h : zz_tc u v ta tb n) (hm : m ≤ n) : zz_tc u v ta tb m := fun i hi => h i (by omega)
theorem zz_tp.of {md : List (Nat × Nat)} {τ : q_T} {σ s1 : q_V} {a1 a2 ta tb : Nat} {t t2 : Int32} (hc : zz_tc (fx_N σ) (fx_N σ) ta tb t2.toInt) (h1 : σ a1 1 = .int t) (h2 : s1 a2 4 = .int t2) (ht : t.toInt = t2.toInt) (ha : σ a1 0 = .ref ta) (hb : s1 a2 3 = .ref tb) (Tb : τ tb = some (310, 260)) (F1 : q_F md τ σ s1) (m1 : md.contains (310, 0) = false) : zz_tp (fx_N σ) (fx_N s1) a1 a2 ta tb t2.toInt := ⟨⟨(zz_N h1).trans ht, zz_N h2⟩, ⟨zz_NR ha, zz_NR hb⟩, fun i hi => by
  rw [zz_Na F1 Tb (by decide) m1]
  exact hc i hi⟩
theorem zz_feed2 {md2 : List (Nat × Nat)} {τ : q_T} {σ s1 s2 : q_V} {a1 a2 ta tb : Nat} {t z : Int32} {r1 r2 : Int} {x1 x2 x3 x4 x5 y1 y2 y3 y4 y5 : Int32} (tp : zz_tp (fx_N σ) (fx_N s1) a1 a2 ta tb t.toInt) (hz : s2 a2 4 = .int z) (Ta : τ ta = some (110, 260)) (Tb : τ tb = some (310, 260)) (T1 : τ a1 = some (9, 1)) (T2 : τ a2 = some (10, 1)) (F2 : q_F md2 τ s1 s2) (m2 : md2.contains (110, 0) = false) (e1 : (r1, fx_N s1) = f_X11_feed (fx_N σ) a1 x1.toInt x2.toInt x3.toInt x4.toInt x5.toInt) (e2 : (r2, fx_N s2) = f_X12_feed (fx_N s1) a2 y1.toInt y2.toInt y3.toInt y4.toInt y5.toInt) (q1 : y1.toInt = x1.toInt) (q2 : y2.toInt = x2.toInt) (q3 : y3.toInt = x3.toInt) (q4 : y4.toInt = x4.toInt) (q5 : y5.toInt = x5.toInt) (h0 : 0 ≤ t.toInt) : zz_tc (fx_N s2) (fx_N s2) ta tb z.toInt := by
  rw [q1, q2, q3, q4, q5] at e2
  obtain ⟨t3, k⟩ := tp.feed (zz_toInt x1) (zz_toInt x2) (zz_toInt x3) (zz_toInt x4) (zz_toInt x5) h0 (q_neT Ta T1 (by decide)) (q_neT Tb T2 (by decide))
  rw [← e1, ← e2] at k
  obtain ⟨⟨-, k2⟩, -, k5⟩ := k
  have e3 : t3 = z.toInt := k2.symm.trans (zz_N hz)
  subst e3
  intro i hi
  rw [zz_Na F2 Ta (by decide) m2]
  exact k5 i hi
theorem zz_row2 {τ : q_T} {σ s1 s2 : q_V} {a1 a2 ta tb br bn w0 w1 w2 : Nat} {t d1 d2 : Int32} {r1 r2 : Int} {x1 x2 y1 y2 : Int32} (hI : q_I τ σ) (hI1 : q_I τ s1) (tp : zz_tp (fx_N σ) (fx_N s1) a1 a2 ta tb t.toInt) (ht : q_r t 0 260) (Ta : τ ta = some (110, 260)) (Tb : τ tb = some (310, 260)) (T1 : τ a1 = some (9, 1)) (T2 : τ a2 = some (10, 1)) (Tn : τ bn = some (100, 549)) (hbr : σ a1 5 = .ref br) (hdc : σ br 0 = .int d1) (hbn : s1 a2 0 = .ref bn) (hdr : s1 bn (512 : Int32).toInt.toNat = .int d2) (hdd : d1.toInt = d2.toInt) (rd : q_r d1 8 64) (e1 : (r1, fx_N s1) = f_X11_row (fx_N σ) a1 x1.toInt x2.toInt) (e2 : (r2, fx_N s2) = f_X12_row (fx_N s1) a2 y1.toInt y2.toInt) (q1 : y1.toInt = x1.toInt) (q2 : y2.toInt = x2.toInt) (he : σ br 1 = .ref w0 ∧ σ br 2 = .ref w1 ∧ σ br 3 = .ref w2) : ∃ q V1 : Nat, τ q = some (7, 1) ∧ τ V1 = some (111, 64) ∧ zz_RR a1 q V1 bn (fx_N σ) (fx_N s1) d1.toInt x1.toInt (zz_c3 x1.toInt w0 w1 w2) (r1, fx_N s1) (r2, fx_N s2) := by
  rw [q1, q2] at e2
  have Tbr : τ br = some (6, 1) := zz_ref hI T1 (j := 5) (by decide) hbr rfl
  have E0 : τ w0 = some (118, 64) := zz_ref hI Tbr (j := 1) (by decide) he.1 rfl
  have E1 : τ w1 = some (118, 64) := zz_ref hI Tbr (j := 2) (by decide) he.2.1 rfl
  have E2 : τ w2 = some (118, 64) := zz_ref hI Tbr (j := 3) (by decide) he.2.2 rfl
  obtain ⟨q, f0, Tq⟩ := (hI a1 9 1 T1 2 (by decide)).ref (k := 7) (n := 1) rfl
  obtain ⟨V1, f1, U1⟩ := (hI q 7 1 Tq 0 (by decide)).ref (k := 111) (n := 64) rfl
  obtain ⟨NV, f2, U2⟩ := (hI1 a2 10 1 T2 26 (by decide)).ref (k := 161) (n := 64) rfl
  have hv : ∀ i, i < 260 → -128 ≤ fx_N s1 tb i ∧ fx_N s1 tb i ≤ 127 := fun i hi => by
    obtain ⟨x, g1, g2⟩ := (hI1 tb 310 260 Tb i (by rw [q_limA (by decide)]; exact hi)).int (ai_310.2.2 i)
    rw [zz_N g1]
    exact g2
  have k := zz_rowR (x1 := x1.toInt) (x2 := x2.toInt) (d := d1.toInt) tp hv ht (zz_NR f0) (zz_NR f1) (zz_NR hbr) (zz_N hdc) ((zz_N (show s1 bn 512 = .int d2 from hdr)).trans hdd.symm) rd (zz_NR hbn) (zz_NR f2) ⟨zz_NR he.1, zz_NR he.2.1, zz_NR he.2.2⟩
    (q_neT Ta Tq (by decide)) (q_neT U1 Tq (by decide)) (q_neT Ta U1 (by decide)) (q_neT Tb T2 (by decide)) (q_neT Tn T2 (by decide)) (q_neT U2 T2 (by decide)) (q_neT Tb U2 (by decide)) (q_neT Tn U2 (by decide))
    ⟨q_neT Tbr T1 (by decide), q_neT Tbr Tq (by decide), q_neT Tbr U1 (by decide)⟩ (q_neT U1 T1 (by decide)) (q_neT Tq T1 (by decide)) ⟨q_neT E0 T1 (by decide), q_neT E0 Tq (by decide), q_neT E0 U1 (by decide)⟩ ⟨q_neT E1 T1 (by decide), q_neT E1 Tq (by decide), q_neT E1 U1 (by decide)⟩ ⟨q_neT E2 T1 (by decide), q_neT E2 Tq (by decide), q_neT E2 U1 (by decide)⟩
  rw [← e1, ← e2] at k
  exact ⟨q, V1, Tq, U1, k⟩
theorem zz_row3 {τ : q_T} {σ s1 s2 : q_V} {a1 a2 ta tb br bn : Nat} {t d1 d2 : Int32} {r1 r2 : Int} {x1 x2 y1 y2 : Int32} (hI : q_I τ σ) (hI1 : q_I τ s1) (tp : zz_tp (fx_N σ) (fx_N s1) a1 a2 ta tb t.toInt) (ht : q_r t 0 260) (Ta : τ ta = some (110, 260)) (Tb : τ tb = some (310, 260)) (T1 : τ a1 = some (9, 1)) (T2 : τ a2 = some (10, 1)) (Tn : τ bn = some (100, 549)) (hbr : σ a1 5 = .ref br) (hdc : σ br 0 = .int d1) (hbn : s1 a2 0 = .ref bn) (hdr : s1 bn (512 : Int32).toInt.toNat = .int d2) (hdd : d1.toInt = d2.toInt) (rd : q_r d1 8 64) (e1 : (r1, fx_N s1) = f_X11_row (fx_N σ) a1 x1.toInt x2.toInt) (e2 : (r2, fx_N s2) = f_X12_row (fx_N s1) a2 y1.toInt y2.toInt) (q1 : y1.toInt = x1.toInt) (q2 : y2.toInt = x2.toInt) : r1 = r2 := by
  have Tbr : τ br = some (6, 1) := zz_ref hI T1 (j := 5) (by decide) hbr rfl
  obtain ⟨w0, g0, -⟩ := (hI br 6 1 Tbr 1 (by decide)).ref (k := 118) (n := 64) rfl
  obtain ⟨w1, g1, -⟩ := (hI br 6 1 Tbr 2 (by decide)).ref (k := 118) (n := 64) rfl
  obtain ⟨w2, g2, -⟩ := (hI br 6 1 Tbr 3 (by decide)).ref (k := 118) (n := 64) rfl
  obtain ⟨q, V1, -, -, k⟩ := zz_row2 hI hI1 tp ht Ta Tb T1 T2 Tn hbr hdc hbn hdr hdd rd e1 e2 q1 q2 ⟨g0, g1, g2⟩
  exact k.1
/-- the rows of both are alike, and their numbers in their bounds -/
def zz_rs (u : fx_U) (c0 c1 c2 b : Nat) : Prop := ∀ j : Nat, j < 64 → (u c0 j = u b j ∧ u c1 j = u b (64 + j) ∧ u c2 j = u b (128 + j)) ∧ (-99 ≤ u c0 j ∧ u c0 j ≤ 99) ∧ (0 ≤ u c1 j ∧ u c1 j ≤ 99) ∧ (0 ≤ u c2 j ∧ u c2 j ≤ 99)
theorem zz_Nf {σ σ1 : q_V} {a a1 j j1 : Nat} (h : σ1 a1 j1 = σ a j) : fx_N σ1 a1 j1 = fx_N σ a j := congrArg fx_num h
theorem zz_N0 {σ : q_V} {a j : Nat} (h : σ a j = .int 0) : fx_N σ a j = 0 := by
  rw [zz_N h]
  exact tl_0
/-- both from what is known to be 0 -/
theorem zz_rs.z {σ : q_V} {c0 c1 c2 b : Nat} (h : zz_rz σ c0 c1 c2 64) (g : zz_qz σ b 64) : zz_rs (fx_N σ) c0 c1 c2 b := fun j hj => by
  obtain ⟨h0, h1, h2⟩ := h j (by omega)
  obtain ⟨g0, g1, g2⟩ := g j (by omega)
  rw [zz_N0 h0, zz_N0 h1, zz_N0 h2, zz_N0 g0, zz_N0 g1, zz_N0 g2]
  exact ⟨⟨rfl, rfl, rfl⟩, by decide, by decide, by decide⟩
/-- from what others held -/
theorem zz_rs.mv {σ σ1 : q_V} {c0 c1 c2 b d0 d1 d2 e : Nat} (h : zz_rs (fx_N σ) c0 c1 c2 b) (hc : ∀ j : Nat, j < 64 → σ1 d0 j = σ c0 j ∧ σ1 d1 j = σ c1 j ∧ σ1 d2 j = σ c2 j) (hb : ∀ j : Nat, j < 192 → σ1 e j = σ b j) : zz_rs (fx_N σ1) d0 d1 d2 e := fun j hj => by
  obtain ⟨g0, g1, g2⟩ := hc j hj
  rw [zz_Nf g0, zz_Nf g1, zz_Nf g2, zz_Nf (hb j (by omega)), zz_Nf (hb (64 + j) (by omega)), zz_Nf (hb (128 + j) (by omega))]
  exact h j hj
theorem zz_rs.C {τ : q_T} {σ σ1 : q_V} {c0 c1 c2 b : Nat} {md : List (Nat × Nat)} (h : zz_rs (fx_N σ) c0 c1 c2 b) (S : q_S md τ σ σ1) (hm : md.contains (118, 0) = false) (T0 : τ c0 = some (118, 64)) (T1 : τ c1 = some (118, 64)) (T2 : τ c2 = some (118, 64)) (hb : ∀ j : Nat, j < 192 → σ1 b j = σ b j) : zz_rs (fx_N σ1) c0 c1 c2 b := h.mv (fun j _ => ⟨congrFun (zz_sC S hm T0) j, congrFun (zz_sC S hm T1) j, congrFun (zz_sC S hm T2) j⟩) hb
/-- over a call that writes the rows of another road -/
theorem zz_rs.O {τ : q_T} {σ σ1 : q_V} {c0 c1 c2 d0 d1 d2 b : Nat} (h : zz_rs (fx_N σ) c0 c1 c2 b) (x : zz_rx τ σ σ1 d0 d1 d2) (T0 : τ c0 = some (118, 64)) (T1 : τ c1 = some (118, 64)) (T2 : τ c2 = some (118, 64)) (n : (c0 ≠ d0 ∧ c0 ≠ d1 ∧ c0 ≠ d2) ∧ (c1 ≠ d0 ∧ c1 ≠ d1 ∧ c1 ≠ d2) ∧ (c2 ≠ d0 ∧ c2 ≠ d1 ∧ c2 ≠ d2)) (hb : ∀ j : Nat, j < 192 → σ1 b j = σ b j) : zz_rs (fx_N σ1) c0 c1 c2 b := h.mv (fun j _ => ⟨congrFun (x c0 T0 n.1.1 n.1.2.1 n.1.2.2) j, congrFun (x c1 T1 n.2.1.1 n.2.1.2.1 n.2.1.2.2) j, congrFun (x c2 T2 n.2.2.1 n.2.2.2.1 n.2.2.2.2) j⟩) hb
theorem zz_a6.n1 {c0 c1 c2 d0 d1 d2 : Nat} (h : zz_a6 c0 c1 c2 d0 d1 d2) : (d0 ≠ c0 ∧ d0 ≠ c1 ∧ d0 ≠ c2) ∧ (d1 ≠ c0 ∧ d1 ≠ c1 ∧ d1 ≠ c2) ∧ (d2 ≠ c0 ∧ d2 ≠ c1 ∧ d2 ≠ c2) := h.2.2
theorem zz_a6.n2 {c0 c1 c2 d0 d1 d2 : Nat} (h : zz_a6 c0 c1 c2 d0 d1 d2) : (c0 ≠ d0 ∧ c0 ≠ d1 ∧ c0 ≠ d2) ∧ (c1 ≠ d0 ∧ c1 ≠ d1 ∧ c1 ≠ d2) ∧ (c2 ≠ d0 ∧ c2 ≠ d1 ∧ c2 ≠ d2) := by
  obtain ⟨-, -, ⟨a1, a2, a3⟩, ⟨b1, b2, b3⟩, e1, e2, e3⟩ := h
  exact ⟨⟨Ne.symm a1, Ne.symm b1, Ne.symm e1⟩, ⟨Ne.symm a2, Ne.symm b2, Ne.symm e2⟩, ⟨Ne.symm a3, Ne.symm b3, Ne.symm e3⟩⟩
theorem zz_a6.sw {c0 c1 c2 d0 d1 d2 : Nat} (h : zz_a6 c0 c1 c2 d0 d1 d2) : zz_a6 d0 d1 d2 c0 c1 c2 := ⟨h.2.1, h.1, h.n2⟩
theorem zz_rxof {τ : q_T} {σ σ1 : q_V} {c0 c1 c2 : Nat} {r : Int} {B : Prop} (h : (r = 1 → zz_rx τ σ σ1 c0 c1 c2 ∧ B) ∧ (r = 0 → ∀ c : Nat, τ c = some (118, 64) → σ1 c = σ c)) (hr : r = 0 ∨ r = 1) : zz_rx τ σ σ1 c0 c1 c2 := by
  rcases hr with q | q
  · exact zz_rx.rf.S (h.2 q)
  · exact (h.1 q).1
theorem zz_road2 {τ : q_T} {σ s1 s2 : q_V} {c0 c1 c2 b : Nat} {r1 r2 : Int} {md1 md2 : List (Nat × Nat)} (h : zz_rs (fx_N σ) c0 c1 c2 b) (p1 : (r1 = 1 → zz_rx τ σ s1 c0 c1 c2 ∧ zz_rz s1 c0 c1 c2 64) ∧ (r1 = 0 → ∀ c : Nat, τ c = some (118, 64) → s1 c = σ c)) (p2 : (r2 = 1 → zz_qz s2 b 64) ∧ (r2 = 0 → fx_kr s1 s2 b)) (S1 : q_S md1 τ σ s1) (S2 : q_S md2 τ s1 s2) (m1 : md1.contains (100, 0) = false) (m2 : md2.contains (118, 0) = false) (T0 : τ c0 = some (118, 64)) (T1 : τ c1 = some (118, 64)) (T2 : τ c2 = some (118, 64)) (Tb : τ b = some (100, 549)) (hr : r1 = r2 ∧ (r1 = 0 ∨ r1 = 1)) : zz_rs (fx_N s2) c0 c1 c2 b := by
  obtain ⟨rfl, q | q⟩ := hr
  · refine h.mv (fun j _ => ?_) (fun j hj => ((p2.2 q) j (Or.inl hj)).trans (S1.2.arr Tb (by decide) m1))
    rw [zz_sC S2 m2 T0, zz_sC S2 m2 T1, zz_sC S2 m2 T2, p1.2 q c0 T0, p1.2 q c1 T1, p1.2 q c2 T2]
    exact ⟨rfl, rfl, rfl⟩
  · exact zz_rs.z ((p1.1 q).2.S (zz_sC S2 m2 T0) (zz_sC S2 m2 T1) (zz_sC S2 m2 T2)) (p2.1 q)
theorem zz_undo2 {τ : q_T} {σ s1 s2 : q_V} {c0 c1 c2 d0 d1 d2 b e : Nat} {r1 r2 k : Int} {md1 md2 : List (Nat × Nat)} (h : zz_rs (fx_N σ) c0 c1 c2 b) (g : k = 0 ∨ zz_rs (fx_N σ) d0 d1 d2 e) (p1 : (r1 = 1 → zz_rx τ σ s1 c0 c1 c2 ∧ (zz_a6 c0 c1 c2 d0 d1 d2 → zz_rc σ s1 c0 c1 c2 d0 d1 d2)) ∧ (r1 = 0 → ∀ c : Nat, τ c = some (118, 64) → s1 c = σ c)) (p2 : (r2 = 1 → ∀ j : Nat, j < 192 → s2 b j = s1 e j) ∧ (r2 = 0 → fx_kr s1 s2 b)) (ap : zz_a6 c0 c1 c2 d0 d1 d2) (S1 : q_S md1 τ σ s1) (S2 : q_S md2 τ s1 s2) (m1 : md1.contains (100, 0) = false) (m3 : md1.contains (102, 0) = false) (m2 : md2.contains (118, 0) = false) (T0 : τ c0 = some (118, 64)) (T1 : τ c1 = some (118, 64)) (T2 : τ c2 = some (118, 64)) (Tb : τ b = some (100, 549)) (Te : τ e = some (102, 549)) (hr : r1 = r2 ∧ (r1 = 0 ∨ r1 = 1)) (hk : r1 = 1 → k ≠ 0) : zz_rs (fx_N s2) c0 c1 c2 b := by
  obtain ⟨rfl, q | q⟩ := hr
  · refine h.mv (fun j _ => ?_) (fun j hj => ((p2.2 q) j (Or.inl hj)).trans (S1.2.arr Tb (by decide) m1))
    rw [zz_sC S2 m2 T0, zz_sC S2 m2 T1, zz_sC S2 m2 T2, p1.2 q c0 T0, p1.2 q c1 T1, p1.2 q c2 T2]
    exact ⟨rfl, rfl, rfl⟩
  · rcases g with g | g
    · exact absurd g (hk q)
    · refine g.mv (fun j hj => ?_) (fun j hj => ((p2.1 q) j hj).trans (S1.2.arr Te (by decide) m3))
      rw [zz_sC S2 m2 T0, zz_sC S2 m2 T1, zz_sC S2 m2 T2]
      exact (p1.1 q).2 ap j hj
theorem zz_keep2 {τ : q_T} {σ s1 s2 : q_V} {c0 c1 c2 d0 d1 d2 b e : Nat} {md1 md2 : List (Nat × Nat)} (h : zz_rs (fx_N σ) c0 c1 c2 b) (p1 : zz_rx τ σ s1 d0 d1 d2 ∧ (zz_a6 d0 d1 d2 c0 c1 c2 → zz_rc σ s1 d0 d1 d2 c0 c1 c2)) (p2 : ∀ j : Nat, j < 192 → s2 e j = s1 b j) (ap : zz_a6 c0 c1 c2 d0 d1 d2) (S1 : q_S md1 τ σ s1) (S2 : q_S md2 τ s1 s2) (m1 : md1.contains (100, 0) = false) (m2 : md2.contains (118, 0) = false) (T0 : τ d0 = some (118, 64)) (T1 : τ d1 = some (118, 64)) (T2 : τ d2 = some (118, 64)) (Tb : τ b = some (100, 549)) : zz_rs (fx_N s2) d0 d1 d2 e := by
  refine h.mv (fun j hj => ?_) (fun j hj => (p2 j hj).trans (S1.2.arr Tb (by decide) m1))
  rw [zz_sC S2 m2 T0, zz_sC S2 m2 T1, zz_sC S2 m2 T2]
  exact p1.2 ap.sw j hj
/-- behind row -/
theorem zz_rowA {τ : q_T} {σ s1 s2 : q_V} {a1 c0 c1 c2 b : Nat} {d kd r1 r2 : Int} {md1 md2 : List (Nat × Nat)} (h : zz_rs (fx_N σ) c0 c1 c2 b) (K : ∃ q V1 : Nat, τ q = some (7, 1) ∧ τ V1 = some (111, 64) ∧ zz_RR a1 q V1 b (fx_N σ) (fx_N s1) d kd (zz_c3 kd c0 c1 c2) (r1, fx_N s1) (r2, fx_N s2)) (A1 : τ a1 = some (9, 1)) (hd : 8 ≤ d ∧ d ≤ 64) (ap : c0 ≠ c1 ∧ c0 ≠ c2 ∧ c1 ≠ c2) (S1 : q_S md1 τ σ s1) (S2 : q_S md2 τ s1 s2) (m1 : md1.contains (100, 0) = false) (m2 : md2.contains (118, 0) = false) (T0 : τ c0 = some (118, 64)) (T1 : τ c1 = some (118, 64)) (T2 : τ c2 = some (118, 64)) (Tb : τ b = some (100, 549)) : zz_rs (fx_N s2) c0 c1 c2 b := by
  obtain ⟨q, V1, Tq, TV, -, f, g⟩ := K
  have n3 : ∀ c, τ c = some (118, 64) → c ≠ a1 ∧ c ≠ q ∧ c ≠ V1 := fun c hc => ⟨zz_neT hc A1 (by decide), zz_neT hc Tq (by decide), zz_neT hc TV (by decide)⟩
  have b1 : ∀ i, fx_N s1 b i = fx_N σ b i := fun i => zz_Nf (S1.2.arr Tb (by decide) m1)
  have k0 : ∀ i, fx_N s2 c0 i = fx_N s1 c0 i := fun i => zz_Nf (congrFun (zz_sC S2 m2 T0) i)
  have k1 : ∀ i, fx_N s2 c1 i = fx_N s1 c1 i := fun i => zz_Nf (congrFun (zz_sC S2 m2 T1) i)
  have k2 : ∀ i, fx_N s2 c2 i = fx_N s1 c2 i := fun i => zz_Nf (congrFun (zz_sC S2 m2 T2) i)
  have f2 : ∀ c, τ c = some (118, 64) → c ≠ zz_c3 kd c0 c1 c2 → ∀ i, fx_N s1 c i = fx_N σ c i := fun c hc hn i => f c (n3 c hc).1 (n3 c hc).2.1 (n3 c hc).2.2 hn i
  rcases g with ⟨-, g1, g2⟩ | ⟨-, hk, V, g1, g2, g3⟩
  · have al : ∀ c, τ c = some (118, 64) → ∀ i, fx_N s1 c i = fx_N σ c i := fun c hc i => by
      by_cases e : c = zz_c3 kd c0 c1 c2
      · rw [e]; exact g1 i
      · exact f2 c hc e i
    have g2' : ∀ i, fx_N s2 b i = fx_N s1 b i := g2
    intro j hj
    rw [k0, k1, k2, al c0 T0, al c1 T1, al c2 T2, g2', g2', g2', b1, b1, b1]
    exact h j hj
  · have g2' : ∀ i : Nat, fx_N s1 (zz_c3 kd c0 c1 c2) i = if (i : Int) < d then V i else fx_N σ (zz_c3 kd c0 c1 c2) i := g2
    have g3' : ∀ i : Nat, fx_N s2 b i = if 64 * kd ≤ (i : Int) ∧ (i : Int) < 64 * kd + d then V (i - (64 * kd).toNat) else fx_N s1 b i := g3
    intro j hj
    obtain ⟨⟨h0, h1, h2⟩, h3, h4, h5⟩ := h j hj
    rcases (show kd = 0 ∨ kd = 1 ∨ kd = 2 by omega) with rfl | rfl | rfl
    · have ec : zz_c3 0 c0 c1 c2 = c0 := rfl
      rw [ec] at g2' f2
      rw [k0, k1, k2, f2 c1 T1 (Ne.symm ap.1), f2 c2 T2 (Ne.symm ap.2.1), g2', g3', g3', g3', if_neg (show ¬ (64 * (0 : Int) ≤ ((64 + j : Nat) : Int) ∧ ((64 + j : Nat) : Int) < 64 * 0 + d) by omega), if_neg (show ¬ (64 * (0 : Int) ≤ ((128 + j : Nat) : Int) ∧ ((128 + j : Nat) : Int) < 64 * 0 + d) by omega), b1, b1, b1]
      by_cases e : (j : Int) < d
      · rw [if_pos e, if_pos (by omega), show j - (64 * (0 : Int)).toNat = j from rfl]
        have z := g1 j e
        exact ⟨⟨rfl, h1, h2⟩, z.2.1, h4, h5⟩
      · rw [if_neg e, if_neg (by omega)]
        exact ⟨⟨h0, h1, h2⟩, h3, h4, h5⟩
    · have ec : zz_c3 1 c0 c1 c2 = c1 := rfl
      rw [ec] at g2' f2
      rw [k0, k1, k2, f2 c0 T0 ap.1, f2 c2 T2 (Ne.symm ap.2.2), g2', g3', g3', g3', if_neg (show ¬ (64 * (1 : Int) ≤ (j : Int) ∧ (j : Int) < 64 * 1 + d) by omega), if_neg (show ¬ (64 * (1 : Int) ≤ ((128 + j : Nat) : Int) ∧ ((128 + j : Nat) : Int) < 64 * 1 + d) by omega), b1, b1, b1]
      by_cases e : (j : Int) < d
      · rw [if_pos e, if_pos (by omega), show 64 + j - (64 * (1 : Int)).toNat = j by omega]
        have z := g1 j e
        exact ⟨⟨h0, rfl, h2⟩, h3, ⟨z.2.2 rfl, z.2.1.2⟩, h5⟩
      · rw [if_neg e, if_neg (by omega)]
        exact ⟨⟨h0, h1, h2⟩, h3, h4, h5⟩
    · have ec : zz_c3 2 c0 c1 c2 = c2 := rfl
      rw [ec] at g2' f2
      rw [k0, k1, k2, f2 c0 T0 ap.2.1, f2 c1 T1 ap.2.2, g2', g3', g3', g3', if_neg (show ¬ (64 * (2 : Int) ≤ (j : Int) ∧ (j : Int) < 64 * 2 + d) by omega), if_neg (show ¬ (64 * (2 : Int) ≤ ((64 + j : Nat) : Int) ∧ ((64 + j : Nat) : Int) < 64 * 2 + d) by omega), b1, b1, b1]
      by_cases e : (j : Int) < d
      · rw [if_pos e, if_pos (by omega), show 128 + j - (64 * (2 : Int)).toNat = j by omega]
        have z := g1 j e
        exact ⟨⟨h0, h1, rfl⟩, h3, h4, ⟨z.2.2 rfl, z.2.1.2⟩⟩
      · rw [if_neg e, if_neg (by omega)]
        exact ⟨⟨h0, h1, h2⟩, h3, h4, h5⟩
theorem zz_rowE {τ : q_T} {σ s1 s2 : q_V} {a1 c0 c1 c2 e0 e1 e2 b bm : Nat} {d kd r1 r2 : Int} {md1 md2 : List (Nat × Nat)} (h : zz_rs (fx_N σ) e0 e1 e2 bm) (K : ∃ q V1 : Nat, τ q = some (7, 1) ∧ τ V1 = some (111, 64) ∧ zz_RR a1 q V1 b (fx_N σ) (fx_N s1) d kd (zz_c3 kd c0 c1 c2) (r1, fx_N s1) (r2, fx_N s2)) (A1 : τ a1 = some (9, 1)) (ap : zz_a6 c0 c1 c2 e0 e1 e2) (S1 : q_S md1 τ σ s1) (S2 : q_S md2 τ s1 s2) (m1 : md1.contains (102, 0) = false) (m2 : md2.contains (118, 0) = false) (m3 : md2.contains (102, 0) = false) (T0 : τ e0 = some (118, 64)) (T1 : τ e1 = some (118, 64)) (T2 : τ e2 = some (118, 64)) (Tb : τ bm = some (102, 549)) : zz_rs (fx_N s2) e0 e1 e2 bm := by
  obtain ⟨q, V1, Tq, TV, -, f, -⟩ := K
  obtain ⟨n0, n1, n2⟩ := ap.n1
  have ff : ∀ c, τ c = some (118, 64) → (c ≠ c0 ∧ c ≠ c1 ∧ c ≠ c2) → ∀ i, fx_N s2 c i = fx_N σ c i := fun c hc hn i => by
    rw [zz_Nf (congrFun (zz_sC S2 m2 hc) i)]
    exact f c (zz_neT hc A1 (by decide)) (zz_neT hc Tq (by decide)) (zz_neT hc TV (by decide)) (fun e => by
      have z : zz_c3 kd c0 c1 c2 = c0 ∨ zz_c3 kd c0 c1 c2 = c1 ∨ zz_c3 kd c0 c1 c2 = c2 := zz_c3.all (P := fun c => c = c0 ∨ c = c1 ∨ c = c2) (Or.inl rfl) (Or.inr (Or.inl rfl)) (Or.inr (Or.inr rfl))
      rw [← e] at z
      rcases z with z | z | z
      · exact hn.1 z
      · exact hn.2.1 z
      · exact hn.2.2 z) i
  have bb : ∀ i, fx_N s2 bm i = fx_N σ bm i := fun i => (zz_Nf (S2.2.arr Tb (by decide) m3)).trans (zz_Nf (S1.2.arr Tb (by decide) m1))
  intro j hj
  rw [ff e0 T0 n0, ff e1 T1 n1, ff e2 T2 n2, bb, bb, bb]
  exact h j hj
/-! THE LAW IN FORCE: the loop keeps it -/
def zi_pl : List (Nat × Nat) := [(9, 3), (9, 4), (4, 4), (3, 0), (3, 1), (3, 2), (3, 3), (3, 4), (3, 5), (3, 6), (3, 7), (112, 0), (113, 0), (114, 0), (115, 0), (116, 0), (10, 13), (10, 21), (10, 22), (10, 23), (10, 24), (10, 25), (156, 0), (157, 0), (158, 0), (159, 0), (160, 0)]
def zi_p1 : List (Nat × Nat) := [(10, 3), (10, 13), (10, 21), (10, 22), (10, 23), (10, 24), (10, 25), (156, 0), (157, 0), (158, 0), (159, 0), (160, 0), (310, 0)]
def zi_p2 : List (Nat × Nat) := [(9, 3), (9, 4), (4, 4), (3, 0), (3, 1), (3, 2), (3, 3), (3, 4), (3, 5), (3, 6), (3, 7), (112, 0), (113, 0), (114, 0), (115, 0), (116, 0)]
theorem zi_mm {L md : List (Nat × Nat)} (hm : (L.all fun p => !(md.contains p)) = true) (p : Nat × Nat) (hp : p ∈ L) : md.contains p = false := by
  have z := List.all_eq_true.mp hm p hp
  cases e : md.contains p with
  | false => rfl
  | true =>
    rw [e] at z
    cases z
theorem zi_o {τ : q_T} {σ σ1 : q_V} {L md : List (Nat × Nat)} {b k j : Nat} (S : q_S md τ σ σ1) (hm : (L.all fun p => !(md.contains p)) = true) (hT : τ b = some (k, 1)) (hk : k < 100) (hp : (k, j) ∈ L) : fx_N σ1 b j = fx_N σ b j := zz_Nf (S.2 b k 1 j hT (by rw [if_pos hk]; exact zi_mm hm _ hp))
theorem zi_a {τ : q_T} {σ σ1 : q_V} {L md : List (Nat × Nat)} {b k n : Nat} (S : q_S md τ σ σ1) (hm : (L.all fun p => !(md.contains p)) = true) (hT : τ b = some (k, n)) (hk : ¬ k < 100) (hp : (k, 0) ∈ L) (i : Nat) : fx_N σ1 b i = fx_N σ b i := zz_Nf (S.2 b k n i hT (by rw [if_neg hk]; exact zi_mm hm _ hp))
theorem zi_ref {τ : q_T} {σ : q_V} {a k j b : Nat} (k2 n2 : Nat) (hI : q_I τ σ) (hT : τ a = some (k, 1)) (hj : j < q_lim k 1) (ht : q_f k j = (1, (k2 : Int), (n2 : Int))) (hb : fx_N σ a j = (b : Int)) : τ b = some (k2, n2) := by
  obtain ⟨b2, e1, e2⟩ := (hI a k 1 hT j hj).ref ht
  have e3 := zz_NR e1
  have e4 : b = b2 := by omega
  rw [e4]
  exact e2
def zi_T (τ : q_T) (q lf lr s1 v1 x5 x6 x7 s2 v2 y5 y6 y7 bc bcl bcf bch bct : Nat) : Prop := (τ q = some (4, 1) ∧ τ lf = some (3, 1) ∧ τ lr = some (3, 1)) ∧ (τ s1 = some (112, 240) ∧ τ v1 = some (113, 240) ∧ τ x5 = some (114, 16) ∧ τ x6 = some (115, 16) ∧ τ x7 = some (116, 16)) ∧ (τ s2 = some (112, 240) ∧ τ v2 = some (113, 240) ∧ τ y5 = some (114, 16) ∧ τ y6 = some (115, 16) ∧ τ y7 = some (116, 16)) ∧ (τ bc = some (156, 260) ∧ τ bcl = some (157, 16) ∧ τ bcf = some (158, 16) ∧ τ bch = some (159, 16) ∧ τ bct = some (160, 16))
theorem zi_P.T {τ : q_T} {σ : q_V} {a1 a2 q lf lr s1 v1 x5 x6 x7 s2 v2 y5 y6 y7 bc bcl bcf bch bct : Nat} {R : zl_L} (hI : q_I τ σ) (T1 : τ a1 = some (9, 1)) (T2 : τ a2 = some (10, 1)) (h : zi_P a1 a2 q lf lr s1 v1 x5 x6 x7 s2 v2 y5 y6 y7 bc bcl bcf bch bct R (fx_N σ)) : zi_T τ q lf lr s1 v1 x5 x6 x7 s2 v2 y5 y6 y7 bc bcl bcf bch bct := by
  obtain ⟨⟨⟨p3, p4, pq⟩, -, ⟨f3, f4, f5, f6, f7⟩, ⟨r3, r4, r5, r6, r7⟩, -⟩, -, ⟨⟨-, d21, d22, d23, d24, d25⟩, -⟩, -⟩ := h
  have Tq := zi_ref 4 1 hI T1 (j := 3) (by decide) rfl p3
  have Tf := zi_ref 3 1 hI T1 (j := 4) (by decide) rfl p4
  have Tr := zi_ref 3 1 hI Tq (j := 4) (by decide) rfl pq
  exact ⟨⟨Tq, Tf, Tr⟩, ⟨zi_ref 112 240 hI Tf (j := 3) (by decide) rfl f3, zi_ref 113 240 hI Tf (j := 4) (by decide) rfl f4, zi_ref 114 16 hI Tf (j := 5) (by decide) rfl f5, zi_ref 115 16 hI Tf (j := 6) (by decide) rfl f6, zi_ref 116 16 hI Tf (j := 7) (by decide) rfl f7⟩, ⟨zi_ref 112 240 hI Tr (j := 3) (by decide) rfl r3, zi_ref 113 240 hI Tr (j := 4) (by decide) rfl r4, zi_ref 114 16 hI Tr (j := 5) (by decide) rfl r5, zi_ref 115 16 hI Tr (j := 6) (by decide) rfl r6, zi_ref 116 16 hI Tr (j := 7) (by decide) rfl r7⟩, zi_ref 156 260 hI T2 (j := 21) (by decide) rfl d21, zi_ref 157 16 hI T2 (j := 22) (by decide) rfl d22, zi_ref 158 16 hI T2 (j := 23) (by decide) rfl d23, zi_ref 159 16 hI T2 (j := 24) (by decide) rfl d24, zi_ref 160 16 hI T2 (j := 25) (by decide) rfl d25⟩
/-- over a call that writes none of it -/
theorem zi_L.C {τ : q_T} {σ σ1 : q_V} {a1 a2 : Nat} {md : List (Nat × Nat)} (hI : q_I τ σ) (T1 : τ a1 = some (9, 1)) (T2 : τ a2 = some (10, 1)) (S : q_S md τ σ σ1) (hm : (zi_pl.all fun p => !(md.contains p)) = true) (h : zi_L a1 a2 (fx_N σ)) : zi_L a1 a2 (fx_N σ1) := by
  obtain ⟨R, q, lf, lr, s1, v1, x5, x6, x7, s2, v2, y5, y6, y7, bc, bcl, bcf, bch, bct, h⟩ := h
  obtain ⟨⟨Tq, Tf, Tr⟩, ⟨A3, A4, A5, A6, A7⟩, ⟨B3, B4, B5, B6, B7⟩, C1, C2, C3, C4, C5⟩ := h.T hI T1 T2
  obtain ⟨⟨⟨p3, p4, pq⟩, ne, ⟨f3, f4, f5, f6, f7⟩, ⟨r3, r4, r5, r6, r7⟩, na⟩, ⟨⟨c0, c1, c2⟩, cL⟩, ⟨⟨d13, d21, d22, d23, d24, d25⟩, dL⟩, hE, hR⟩ := h
  have e1 : fx_N σ1 lf 1 = fx_N σ lf 1 := zi_o S hm Tf (by decide) (by decide)
  refine ⟨R, q, lf, lr, s1, v1, x5, x6, x7, s2, v2, y5, y6, y7, bc, bcl, bcf, bch, bct, ⟨⟨(zi_o S hm T1 (by decide) (by decide)).trans p3, (zi_o S hm T1 (by decide) (by decide)).trans p4, (zi_o S hm Tq (by decide) (by decide)).trans pq⟩, ne, ⟨(zi_o S hm Tf (by decide) (by decide)).trans f3, (zi_o S hm Tf (by decide) (by decide)).trans f4, (zi_o S hm Tf (by decide) (by decide)).trans f5, (zi_o S hm Tf (by decide) (by decide)).trans f6, (zi_o S hm Tf (by decide) (by decide)).trans f7⟩, ⟨(zi_o S hm Tr (by decide) (by decide)).trans r3, (zi_o S hm Tr (by decide) (by decide)).trans r4, (zi_o S hm Tr (by decide) (by decide)).trans r5, (zi_o S hm Tr (by decide) (by decide)).trans r6, (zi_o S hm Tr (by decide) (by decide)).trans r7⟩, na⟩, ⟨⟨(zi_o S hm Tf (by decide) (by decide)).trans c0, by omega, (zi_o S hm Tf (by decide) (by decide)).trans c2⟩, ?_⟩, ⟨⟨(zi_o S hm T2 (by decide) (by decide)).trans d13, (zi_o S hm T2 (by decide) (by decide)).trans d21, (zi_o S hm T2 (by decide) (by decide)).trans d22, (zi_o S hm T2 (by decide) (by decide)).trans d23, (zi_o S hm T2 (by decide) (by decide)).trans d24, (zi_o S hm T2 (by decide) (by decide)).trans d25⟩, zv_Lr_mv (fun b hb i => ?_) R 0 dL⟩, hE, hR⟩
  · rw [e1]
    exact zv_Lc_mv (Int.le_refl _) (fun i _ => ⟨zi_a S hm A3 (by decide) (by decide) i, zi_a S hm A4 (by decide) (by decide) i⟩) R 0 (fun i _ _ => ⟨zi_a S hm A5 (by decide) (by decide) i, zi_a S hm A6 (by decide) (by decide) i, zi_a S hm A7 (by decide) (by decide) i⟩) cL
  · rcases hb with e | e | e | e | e <;> rw [e]
    · exact zi_a S hm C1 (by decide) (by decide) i
    · exact zi_a S hm C2 (by decide) (by decide) i
    · exact zi_a S hm C3 (by decide) (by decide) i
    · exact zi_a S hm C4 (by decide) (by decide) i
    · exact zi_a S hm C5 (by decide) (by decide) i
/-- as both are made -/
theorem zi_L.z {τ : q_T} {σ : q_V} {a1 a2 q lr lf : Nat} (hI : q_I τ σ) (T2 : τ a2 = some (10, 1)) (e3 : σ a1 3 = .ref q) (e4 : σ a1 4 = .ref lf) (h : zz_lz σ q lr lf) (h13 : σ a2 13 = .int 0) : zi_L a1 a2 (fx_N σ) := by
  obtain ⟨eq, ne, ⟨s1, v1, x5, x6, x7, s2, v2, y5, y6, y7, ⟨f3, f4, f5, f6, f7⟩, ⟨r3, r4, r5, r6, r7⟩, na⟩, z0, z1, z2⟩ := h
  obtain ⟨bc, g1, -⟩ := (hI a2 10 1 T2 21 (by decide)).ref (k := 156) (n := 260) rfl
  obtain ⟨bcl, g2, -⟩ := (hI a2 10 1 T2 22 (by decide)).ref (k := 157) (n := 16) rfl
  obtain ⟨bcf, g3, -⟩ := (hI a2 10 1 T2 23 (by decide)).ref (k := 158) (n := 16) rfl
  obtain ⟨bch, g4, -⟩ := (hI a2 10 1 T2 24 (by decide)).ref (k := 159) (n := 16) rfl
  obtain ⟨bct, g5, -⟩ := (hI a2 10 1 T2 25 (by decide)).ref (k := 160) (n := 16) rfl
  refine ⟨[], q, lf, lr, s1, v1, x5, x6, x7, s2, v2, y5, y6, y7, bc, bcl, bcf, bch, bct, ⟨⟨zz_NR e3, zz_NR e4, zz_NR eq⟩, ne, ⟨zz_NR f3, zz_NR f4, zz_NR f5, zz_NR f6, zz_NR f7⟩, ⟨zz_NR r3, zz_NR r4, zz_NR r5, zz_NR r6, zz_NR r7⟩, na⟩, ⟨⟨zz_N0 z0, ?_, zz_N0 z2⟩, True.intro⟩, ⟨⟨zz_N0 h13, zz_NR g1, zz_NR g2, zz_NR g3, zz_NR g4, zz_NR g5⟩, True.intro⟩, fun x hx => (by cases hx), by decide⟩
  rw [zz_N0 z1]
  decide
/-- both were given a law -/
theorem zi_law2 {τ : q_T} {σ s1 s2 : q_V} {a1 a2 ta tb : Nat} {t : Int32} {r1 r2 : Int} {x1 y1 : Int32} {md1 md2 : List (Nat × Nat)} (hI : q_I τ σ) (hI1 : q_I τ s1) (tp : zz_tp (fx_N σ) (fx_N s1) a1 a2 ta tb t.toInt) (ht : q_r t 0 260) (Ta : τ ta = some (110, 260)) (Tb : τ tb = some (310, 260)) (T1 : τ a1 = some (9, 1)) (T2 : τ a2 = some (10, 1)) (S1 : q_S md1 τ σ s1) (hm1 : (zi_p1.all fun p => !(md1.contains p)) = true) (S2 : q_S md2 τ s1 s2) (hm2 : (zi_p2.all fun p => !(md2.contains p)) = true) (e1 : (r1, fx_N s1) = f_X11_law (fx_N σ) a1 x1.toInt) (e2 : (r2, fx_N s2) = f_X12_law (fx_N s1) a2 y1.toInt) (q1 : y1.toInt = x1.toInt) (h : zi_L a1 a2 (fx_N σ)) : zi_L a1 a2 (fx_N s2) := by
  rw [q1] at e2
  have ht2 : 0 ≤ t.toInt ∧ t.toInt ≤ 260 := ht
  obtain ⟨R, q, lf, lr, g1, v1, x5, x6, x7, g2, v2, y5, y6, y7, bc, bcl, bcf, bch, bct, h⟩ := h
  obtain ⟨⟨Tq, Tf, Tr⟩, ⟨A3, A4, A5, A6, A7⟩, ⟨B3, B4, B5, B6, B7⟩, C1, C2, C3, C4, C5⟩ := h.T hI T1 T2
  have h0 := h
  obtain ⟨⟨⟨p3, p4, pq⟩, ne, ⟨f3, f4, f5, f6, f7⟩, ⟨r3, r4, r5, r6, r7⟩, ⟨na3, na4, na5, na6, na7⟩⟩, ⟨⟨c0, c1, c2⟩, cL⟩, ⟨⟨d13, d21, d22, d23, d24, d25⟩, dL⟩, hE, hR⟩ := h
  obtain ⟨⟨hu, hw⟩, ⟨hta, htb⟩, htc⟩ := tp
  by_cases gx : 1 ≤ x1.toInt ∧ x1.toInt ≤ 240
  · by_cases gt : t.toInt < x1.toInt
    · have k1 : f_X11_law (fx_N σ) a1 x1.toInt = (-1, fx_N σ) := by
        unfold f_X11_law
        simp only [fz_lt, zz_is, hu, if_pos gx, if_neg zz_n10, if_pos gt]
      have k2 : f_X12_law (fx_N s1) a2 x1.toInt = (-1, fx_N s1) := by
        unfold f_X12_law
        simp only [fz_lt, fz_lr, zz_is2, hw, if_pos gx, if_neg zz_n10, if_pos gt]
      rw [k1] at e1
      rw [k2] at e2
      rw [(Prod.mk.inj e2).2, (Prod.mk.inj e1).2]
      exact ⟨R, q, lf, lr, g1, v1, x5, x6, x7, g2, v2, y5, y6, y7, bc, bcl, bcf, bch, bct, h0⟩
    · obtain ⟨bs, k5, V5⟩ := (hI1 a2 10 1 T2 15 (by decide)).ref (k := 150) (n := 260) rfl
      obtain ⟨bw, k6, V6⟩ := (hI1 a2 10 1 T2 16 (by decide)).ref (k := 151) (n := 260) rfl
      obtain ⟨bl, k7, V7⟩ := (hI1 a2 10 1 T2 17 (by decide)).ref (k := 152) (n := 16) rfl
      obtain ⟨bf, k8, V8⟩ := (hI1 a2 10 1 T2 18 (by decide)).ref (k := 153) (n := 16) rfl
      obtain ⟨bh, k9, V9⟩ := (hI1 a2 10 1 T2 19 (by decide)).ref (k := 154) (n := 16) rfl
      obtain ⟨bt, k0, V0⟩ := (hI1 a2 10 1 T2 20 (by decide)).ref (k := 155) (n := 16) rfl
      have hv : ∀ i, i < 260 → -128 ≤ fx_N s1 tb i ∧ fx_N s1 tb i ≤ 127 := fun i hi => by
        obtain ⟨x, z1, z2⟩ := (hI1 tb 310 260 Tb i (by rw [q_limA (by decide)]; exact hi)).int (ai_310.2.2 i)
        rw [zz_N z1]
        exact z2
      obtain ⟨T, hT⟩ : ∃ T : Nat → Int, T = fun i => fx_N s1 tb i % 256 := ⟨_, rfl⟩
      have D21 : fx_N s1 a2 21 = (bc : Int) := (zi_o S1 hm1 T2 (by decide) (by decide)).trans d21
      have D22 : fx_N s1 a2 22 = (bcl : Int) := (zi_o S1 hm1 T2 (by decide) (by decide)).trans d22
      have D23 : fx_N s1 a2 23 = (bcf : Int) := (zi_o S1 hm1 T2 (by decide) (by decide)).trans d23
      have D24 : fx_N s1 a2 24 = (bch : Int) := (zi_o S1 hm1 T2 (by decide) (by decide)).trans d24
      have D25 : fx_N s1 a2 25 = (bct : Int) := (zi_o S1 hm1 T2 (by decide) (by decide)).trans d25
      have cw := zl_cW (T := T) (t := t.toInt) (x := x1.toInt) gx (by omega) ⟨hta, hu, p3, p4⟩ pq ⟨r3, r4⟩ ⟨r5, r6, r7⟩ (fun i hi => by rw [hT]; exact htc i (by omega))
        ⟨⟨q_neT Ta Tq (by decide), q_neT Ta Tr (by decide), q_neT Ta B3 (by decide), q_neT Ta B4 (by decide)⟩, ⟨q_neT Tq Tr (by decide), q_neT Tq B3 (by decide), q_neT Tq B4 (by decide)⟩, ⟨q_neT Tr Tq (by decide), q_neT Tr B3 (by decide), q_neT Tr B4 (by decide)⟩, ⟨q_neT B3 Tq (by decide), q_neT B3 Tr (by decide), q_neT B3 B4 (by decide)⟩, q_neT B4 Tq (by decide), q_neT B4 Tr (by decide), q_neT B4 B3 (by decide)⟩
        ⟨⟨q_neT Tq B5 (by decide), q_neT Tq B6 (by decide), q_neT Tq B7 (by decide)⟩, ⟨q_neT Tr B5 (by decide), q_neT Tr B6 (by decide), q_neT Tr B7 (by decide)⟩, q_neT Ta B5 (by decide), q_neT Ta B6 (by decide), q_neT Ta B7 (by decide)⟩
        ⟨⟨q_neT B3 B5 (by decide), q_neT B3 B6 (by decide), q_neT B3 B7 (by decide)⟩, ⟨q_neT B4 B5 (by decide), q_neT B4 B6 (by decide), q_neT B4 B7 (by decide)⟩, q_neT B5 B6 (by decide), q_neT B5 B7 (by decide), q_neT B6 B7 (by decide)⟩
        ⟨⟨q_neT T1 Tq (by decide), q_neT T1 Tr (by decide), q_neT T1 B3 (by decide), q_neT T1 B4 (by decide)⟩, q_neT T1 B5 (by decide), q_neT T1 B6 (by decide), q_neT T1 B7 (by decide)⟩
      have rw1 := zl_rW (T := T) (t := t.toInt) (x := x1.toInt) gx (by omega) hw htb ⟨zz_NR k5, zz_NR k6⟩ ⟨zz_NR k7, zz_NR k8, zz_NR k9, zz_NR k0⟩ ⟨D21, D22, D23, D24, D25⟩ (fun i hi => by rw [hT]; exact zz_and (hv i (by omega)))
        ⟨⟨q_neT Tb T2 (by decide), q_neT Tb V5 (by decide), q_neT Tb V6 (by decide)⟩, ⟨q_neT T2 V5 (by decide), q_neT T2 V6 (by decide)⟩, ⟨q_neT V5 T2 (by decide), q_neT V5 V6 (by decide)⟩, q_neT V6 T2 (by decide), q_neT V6 V5 (by decide)⟩
        ⟨⟨q_neT T2 V7 (by decide), q_neT T2 V8 (by decide), q_neT T2 V9 (by decide), q_neT T2 V0 (by decide)⟩, q_neT Tb V7 (by decide), q_neT Tb V8 (by decide), q_neT Tb V9 (by decide), q_neT Tb V0 (by decide)⟩
        ⟨⟨q_neT V7 V5 (by decide), q_neT V8 V5 (by decide), q_neT V9 V5 (by decide), q_neT V0 V5 (by decide)⟩, ⟨q_neT V7 V6 (by decide), q_neT V8 V6 (by decide), q_neT V9 V6 (by decide), q_neT V0 V6 (by decide)⟩, ⟨q_neT V7 V8 (by decide), q_neT V7 V9 (by decide), q_neT V7 V0 (by decide)⟩, ⟨q_neT V8 V9 (by decide), q_neT V8 V0 (by decide)⟩, q_neT V9 V0 (by decide)⟩
        ⟨⟨q_neT T2 C1 (by decide), q_neT T2 C2 (by decide), q_neT T2 C3 (by decide), q_neT T2 C4 (by decide), q_neT T2 C5 (by decide)⟩, ⟨q_neT V7 C1 (by decide), q_neT V7 C2 (by decide), q_neT V7 C3 (by decide), q_neT V7 C4 (by decide), q_neT V7 C5 (by decide)⟩, ⟨q_neT V8 C1 (by decide), q_neT V8 C2 (by decide), q_neT V8 C3 (by decide), q_neT V8 C4 (by decide), q_neT V8 C5 (by decide)⟩, ⟨q_neT V9 C1 (by decide), q_neT V9 C2 (by decide), q_neT V9 C3 (by decide), q_neT V9 C4 (by decide), q_neT V9 C5 (by decide)⟩, ⟨q_neT V0 C1 (by decide), q_neT V0 C2 (by decide), q_neT V0 C3 (by decide), q_neT V0 C4 (by decide), q_neT V0 C5 (by decide)⟩, q_neT V5 C1 (by decide), ⟨q_neT C1 C2 (by decide), q_neT C1 C3 (by decide), q_neT C1 C4 (by decide), q_neT C1 C5 (by decide)⟩, ⟨q_neT C2 C3 (by decide), q_neT C2 C4 (by decide), q_neT C2 C5 (by decide)⟩, ⟨q_neT C3 C4 (by decide), q_neT C3 C5 (by decide)⟩, q_neT C4 C5 (by decide)⟩
      rcases cw with ⟨w0, w, N, w1, ⟨w2, w3, w4⟩, w5, w6, ⟨w7, w8, w9, w10, w11⟩, w12⟩ | ⟨w0, w, w1, ⟨w2, w3, w4⟩, w5, w6⟩
      · rcases rw1 with ⟨-, z, z1, ⟨z2, z3, z4⟩, z5, z6⟩ | ⟨z0, -⟩
        · have hw1 : fx_N s1 = w := by
            rw [w1] at e1
            exact (Prod.mk.inj e1).2
          have hz1 : fx_N s2 = z := by
            rw [z1] at e2
            exact (Prod.mk.inj e2).2
          rw [← hw1] at w2 w3 w4 w5 w6 w7 w8 w11 w12
          rw [← hz1] at z2 z5 z6
          have len : ((zl_cls T x1.toInt 18 0 0).length : Int) = zl_law T x1.toInt 18 0 0 := z3.symm
          have f1 : fx_N s2 lr 1 = N := (zi_o S2 hm2 Tr (by decide) (by decide)).trans w8
          have lfo : ∀ j : Nat, fx_N s1 lf j = fx_N σ lf j := w5 lf (q_neT Tf T1 (by decide)) (q_neT Tf Tq (by decide)) ne (q_neT Tf B3 (by decide)) (q_neT Tf B4 (by decide)) (q_neT Tf B5 (by decide)) (q_neT Tf B6 (by decide)) (q_neT Tf B7 (by decide))
          refine ⟨zl_cls T x1.toInt 18 0 0, q, lr, lf, g2, v2, y5, y6, y7, g1, v1, x5, x6, x7, bc, bcl, bcf, bch, bct, ⟨⟨(zi_o S2 hm2 T1 (by decide) (by decide)).trans w3, (zi_o S2 hm2 T1 (by decide) (by decide)).trans w2, (zi_o S2 hm2 Tq (by decide) (by decide)).trans w4⟩, Ne.symm ne, ⟨(zi_o S2 hm2 Tr (by decide) (by decide)).trans ((w6 3 (by decide)).trans r3), (zi_o S2 hm2 Tr (by decide) (by decide)).trans ((w6 4 (by decide)).trans r4), (zi_o S2 hm2 Tr (by decide) (by decide)).trans ((w6 5 (by decide)).trans r5), (zi_o S2 hm2 Tr (by decide) (by decide)).trans ((w6 6 (by decide)).trans r6), (zi_o S2 hm2 Tr (by decide) (by decide)).trans ((w6 7 (by decide)).trans r7)⟩, ⟨(zi_o S2 hm2 Tf (by decide) (by decide)).trans ((lfo 3).trans f3), (zi_o S2 hm2 Tf (by decide) (by decide)).trans ((lfo 4).trans f4), (zi_o S2 hm2 Tf (by decide) (by decide)).trans ((lfo 5).trans f5), (zi_o S2 hm2 Tf (by decide) (by decide)).trans ((lfo 6).trans f6), (zi_o S2 hm2 Tf (by decide) (by decide)).trans ((lfo 7).trans f7)⟩, Ne.symm na3, Ne.symm na4, Ne.symm na5, Ne.symm na6, Ne.symm na7⟩, ⟨⟨((zi_o S2 hm2 Tr (by decide) (by decide)).trans w7).trans z3, by omega, (zi_o S2 hm2 Tr (by decide) (by decide)).trans w11⟩, ?_⟩, ⟨⟨z2.trans z3, (z5 21 (by decide)).trans D21, (z5 22 (by decide)).trans D22, (z5 23 (by decide)).trans D23, (z5 24 (by decide)).trans D24, (z5 25 (by decide)).trans D25⟩, z6⟩, zl_cls_E gx.2 18 0 0 (by decide) (by omega) w0, by omega⟩
          rw [f1]
          exact zv_Lc_mv (Int.le_refl _) (fun i _ => ⟨zi_a S2 hm2 B3 (by decide) (by decide) i, zi_a S2 hm2 B4 (by decide) (by decide) i⟩) _ 0 (fun i _ _ => ⟨zi_a S2 hm2 B5 (by decide) (by decide) i, zi_a S2 hm2 B6 (by decide) (by decide) i, zi_a S2 hm2 B7 (by decide) (by decide) i⟩) w12
        · omega
      · rcases rw1 with ⟨z0, -⟩ | ⟨-, z, z1, z5, z6⟩
        · omega
        · have hw1 : fx_N s1 = w := by
            rw [w1] at e1
            exact (Prod.mk.inj e1).2
          have hz1 : fx_N s2 = z := by
            rw [z1] at e2
            exact (Prod.mk.inj e2).2
          rw [← hw1] at w2 w3 w4 w5 w6
          rw [← hz1] at z5 z6
          have lfo : ∀ j : Nat, fx_N s1 lf j = fx_N σ lf j := w5 lf (q_neT Tf T1 (by decide)) (q_neT Tf Tq (by decide)) ne (q_neT Tf B3 (by decide)) (q_neT Tf B4 (by decide)) (q_neT Tf B5 (by decide)) (q_neT Tf B6 (by decide)) (q_neT Tf B7 (by decide))
          have f1 : fx_N s2 lf 1 = fx_N σ lf 1 := (zi_o S2 hm2 Tf (by decide) (by decide)).trans (lfo 1)
          have aro : ∀ b i : Nat, b ≠ a1 → b ≠ q → b ≠ lr → b ≠ g2 → b ≠ v2 → b ≠ y5 → b ≠ y6 → b ≠ y7 → fx_N s1 b i = fx_N σ b i := fun b i n1 n2 n3 n4 n5 n6 n7 n8 => w5 b n1 n2 n3 n4 n5 n6 n7 n8 i
          have o3 : ∀ i, fx_N s1 g1 i = fx_N σ g1 i := fun i => aro g1 i (q_neT A3 T1 (by decide)) (q_neT A3 Tq (by decide)) (q_neT A3 Tr (by decide)) na3 (q_neT A3 B4 (by decide)) (q_neT A3 B5 (by decide)) (q_neT A3 B6 (by decide)) (q_neT A3 B7 (by decide))
          have o4 : ∀ i, fx_N s1 v1 i = fx_N σ v1 i := fun i => aro v1 i (q_neT A4 T1 (by decide)) (q_neT A4 Tq (by decide)) (q_neT A4 Tr (by decide)) (q_neT A4 B3 (by decide)) na4 (q_neT A4 B5 (by decide)) (q_neT A4 B6 (by decide)) (q_neT A4 B7 (by decide))
          have o5 : ∀ i, fx_N s1 x5 i = fx_N σ x5 i := fun i => aro x5 i (q_neT A5 T1 (by decide)) (q_neT A5 Tq (by decide)) (q_neT A5 Tr (by decide)) (q_neT A5 B3 (by decide)) (q_neT A5 B4 (by decide)) na5 (q_neT A5 B6 (by decide)) (q_neT A5 B7 (by decide))
          have o6 : ∀ i, fx_N s1 x6 i = fx_N σ x6 i := fun i => aro x6 i (q_neT A6 T1 (by decide)) (q_neT A6 Tq (by decide)) (q_neT A6 Tr (by decide)) (q_neT A6 B3 (by decide)) (q_neT A6 B4 (by decide)) (q_neT A6 B5 (by decide)) na6 (q_neT A6 B7 (by decide))
          have o7 : ∀ i, fx_N s1 x7 i = fx_N σ x7 i := fun i => aro x7 i (q_neT A7 T1 (by decide)) (q_neT A7 Tq (by decide)) (q_neT A7 Tr (by decide)) (q_neT A7 B3 (by decide)) (q_neT A7 B4 (by decide)) (q_neT A7 B5 (by decide)) (q_neT A7 B6 (by decide)) na7
          refine ⟨R, q, lf, lr, g1, v1, x5, x6, x7, g2, v2, y5, y6, y7, bc, bcl, bcf, bch, bct, ⟨⟨(zi_o S2 hm2 T1 (by decide) (by decide)).trans w3, (zi_o S2 hm2 T1 (by decide) (by decide)).trans w2, (zi_o S2 hm2 Tq (by decide) (by decide)).trans w4⟩, ne, ⟨(zi_o S2 hm2 Tf (by decide) (by decide)).trans ((lfo 3).trans f3), (zi_o S2 hm2 Tf (by decide) (by decide)).trans ((lfo 4).trans f4), (zi_o S2 hm2 Tf (by decide) (by decide)).trans ((lfo 5).trans f5), (zi_o S2 hm2 Tf (by decide) (by decide)).trans ((lfo 6).trans f6), (zi_o S2 hm2 Tf (by decide) (by decide)).trans ((lfo 7).trans f7)⟩, ⟨(zi_o S2 hm2 Tr (by decide) (by decide)).trans ((w6 3 (by decide)).trans r3), (zi_o S2 hm2 Tr (by decide) (by decide)).trans ((w6 4 (by decide)).trans r4), (zi_o S2 hm2 Tr (by decide) (by decide)).trans ((w6 5 (by decide)).trans r5), (zi_o S2 hm2 Tr (by decide) (by decide)).trans ((w6 6 (by decide)).trans r6), (zi_o S2 hm2 Tr (by decide) (by decide)).trans ((w6 7 (by decide)).trans r7)⟩, na3, na4, na5, na6, na7⟩, ⟨⟨(zi_o S2 hm2 Tf (by decide) (by decide)).trans ((lfo 0).trans c0), by omega, (zi_o S2 hm2 Tf (by decide) (by decide)).trans ((lfo 2).trans c2)⟩, ?_⟩, ⟨⟨(z5 13 (by decide)).trans ((zi_o S1 hm1 T2 (by decide) (by decide)).trans d13), (z5 21 (by decide)).trans D21, (z5 22 (by decide)).trans D22, (z5 23 (by decide)).trans D23, (z5 24 (by decide)).trans D24, (z5 25 (by decide)).trans D25⟩, zv_Lr_mv (fun b hb i => ?_) R 0 dL⟩, hE, hR⟩
          · rw [f1]
            exact zv_Lc_mv (Int.le_refl _) (fun i _ => ⟨(zi_a S2 hm2 A3 (by decide) (by decide) i).trans (o3 i), (zi_a S2 hm2 A4 (by decide) (by decide) i).trans (o4 i)⟩) R 0 (fun i _ _ => ⟨(zi_a S2 hm2 A5 (by decide) (by decide) i).trans (o5 i), (zi_a S2 hm2 A6 (by decide) (by decide) i).trans (o6 i), (zi_a S2 hm2 A7 (by decide) (by decide) i).trans (o7 i)⟩) cL
          · rcases hb with e | e | e | e | e <;> rw [e]
            · exact (z6 bc (q_neT C1 T2 (by decide)) (q_neT C1 V5 (by decide)) (q_neT C1 V6 (by decide)) (q_neT C1 V7 (by decide)) (q_neT C1 V8 (by decide)) (q_neT C1 V9 (by decide)) (q_neT C1 V0 (by decide)) i).trans (zi_a S1 hm1 C1 (by decide) (by decide) i)
            · exact (z6 bcl (q_neT C2 T2 (by decide)) (q_neT C2 V5 (by decide)) (q_neT C2 V6 (by decide)) (q_neT C2 V7 (by decide)) (q_neT C2 V8 (by decide)) (q_neT C2 V9 (by decide)) (q_neT C2 V0 (by decide)) i).trans (zi_a S1 hm1 C2 (by decide) (by decide) i)
            · exact (z6 bcf (q_neT C3 T2 (by decide)) (q_neT C3 V5 (by decide)) (q_neT C3 V6 (by decide)) (q_neT C3 V7 (by decide)) (q_neT C3 V8 (by decide)) (q_neT C3 V9 (by decide)) (q_neT C3 V0 (by decide)) i).trans (zi_a S1 hm1 C3 (by decide) (by decide) i)
            · exact (z6 bch (q_neT C4 T2 (by decide)) (q_neT C4 V5 (by decide)) (q_neT C4 V6 (by decide)) (q_neT C4 V7 (by decide)) (q_neT C4 V8 (by decide)) (q_neT C4 V9 (by decide)) (q_neT C4 V0 (by decide)) i).trans (zi_a S1 hm1 C4 (by decide) (by decide) i)
            · exact (z6 bct (q_neT C5 T2 (by decide)) (q_neT C5 V5 (by decide)) (q_neT C5 V6 (by decide)) (q_neT C5 V7 (by decide)) (q_neT C5 V8 (by decide)) (q_neT C5 V9 (by decide)) (q_neT C5 V0 (by decide)) i).trans (zi_a S1 hm1 C5 (by decide) (by decide) i)
  · have k1 : f_X11_law (fx_N σ) a1 x1.toInt = (-1, fx_N σ) := by
      unfold f_X11_law
      simp only [fz_lt, zz_is, if_neg gx, if_true]
    have k2 : f_X12_law (fx_N s1) a2 x1.toInt = (-1, fx_N s1) := by
      unfold f_X12_law
      simp only [fz_lt, fz_lr, zz_is2, if_neg gx, if_true]
    rw [k1] at e1
    rw [k2] at e2
    rw [(Prod.mk.inj e2).2, (Prod.mk.inj e1).2]
    exact ⟨R, q, lf, lr, g1, v1, x5, x6, x7, g2, v2, y5, y6, y7, bc, bcl, bcf, bch, bct, h0⟩
/-! THE NIGHT in the law's loop: both roads alike, the kept ones too -/
def zw_P (τ : q_T) (a1 a2 : Nat) (N M O : Nat → Nat) (b bm bo : Nat) (u : fx_U) : Prop := ((zw_T τ N ∧ zw_T τ M ∧ zw_T τ O) ∧ (zp_dis 15 N ∧ zp_dis 15 M ∧ zp_dis 15 O) ∧ zw_ap N M ∧ zw_ap N O ∧ zw_ap M O) ∧ (τ b = some (100, 549) ∧ τ bo = some (101, 549) ∧ τ bm = some (102, 549)) ∧ (u a1 5 = (N 0 : Int) ∧ u a1 6 = (M 0 : Int) ∧ u a1 7 = (O 0 : Int)) ∧ (u a2 0 = (b : Int) ∧ u a2 1 = (bo : Int) ∧ u a2 2 = (bm : Int)) ∧ (zn_P N u ∧ zn_P M u ∧ zn_P O u) ∧ u a1 8 = u a2 45 ∧ zn_R N b (u (N 0) 0) u u ∧ (u a1 8 = 0 ∨ zn_R M bm (u (M 0) 0) u u)
def zw_L (τ : q_T) (a1 a2 : Nat) (u : fx_U) : Prop := ∃ (N M O : Nat → Nat) (b bm bo : Nat), zw_P τ a1 a2 N M O b bm bo u
/-- as both are made -/
theorem zw_L.z {τ : q_T} {σ : q_V} {a1 a2 b : Nat} {N M O : Nat → Nat} (hI : q_I τ σ) (T2 : τ a2 = some (10, 1)) (mN : zw_M τ N (fx_N σ)) (mM : zw_M τ M (fx_N σ)) (mO : zw_M τ O (fx_N σ)) (p1 : zw_ap N M) (p2 : zw_ap N O) (p3 : zw_ap M O) (e5 : σ a1 5 = .ref (N 0)) (e6 : σ a1 6 = .ref (M 0)) (e7 : σ a1 7 = .ref (O 0)) (e0 : σ a2 0 = .ref b) (k8 : σ a1 8 = .int 0) (k45 : σ a2 45 = .int 0) (h1 : zw_1 b (fx_N σ)) : zw_L τ a1 a2 (fx_N σ) := by
  obtain ⟨b2, g0, tb⟩ := (hI a2 10 1 T2 0 (by decide)).ref (k := 100) (n := 549) rfl
  obtain ⟨bo, g1, tbo⟩ := (hI a2 10 1 T2 1 (by decide)).ref (k := 101) (n := 549) rfl
  obtain ⟨bm, g2, tbm⟩ := (hI a2 10 1 T2 2 (by decide)).ref (k := 102) (n := 549) rfl
  have eb : b2 = b := by
    rw [g0] at e0
    exact Value.ref.inj e0
  subst eb
  obtain ⟨tN, dN, pN, ⟨n0, n15, n16, n17⟩, nD, nA, nC⟩ := mN
  obtain ⟨⟨q2, q3, q4, q5⟩, qD, qA, qc⟩ := h1
  have am : ∀ a : Nat, a < 2 → zn_A N b2 16 (fx_N σ) (fx_N σ) a := fun a ha => by
    obtain ⟨s1, s2, s3⟩ := nA a ha
    obtain ⟨t1, t2, t3⟩ := qA a ha
    unfold zn_A
    rw [s1, s2, s3, t1, t2, t3]
    exact ⟨rfl, ⟨rfl, by decide, by decide⟩, rfl, Or.inl rfl⟩
  refine ⟨N, M, O, b2, bm, bo, ⟨⟨tN, mM.1, mO.1⟩, ⟨dN, mM.2.1, mO.2.1⟩, p1, p2, p3⟩, ⟨tb, tbo, tbm⟩, ⟨zz_NR e5, zz_NR e6, zz_NR e7⟩, ⟨zz_NR g0, zz_NR g1, zz_NR g2⟩, ⟨pN, mM.2.2.1, mO.2.2.1⟩, (zz_N0 k8).trans (zz_N0 k45).symm, ?_, Or.inl (zz_N0 k8)⟩
  rw [n0]
  refine ⟨?_, fun j hj => ?_, ⟨am 0 (by decide), am 1 (by decide)⟩, fun _ => (nA 0 (by decide)).2.1, fun c hc => ?_⟩
  · unfold zn_G
    rw [n0, n15, n16, n17, q2, q3, q4, q5]
    exact ⟨⟨rfl, rfl⟩, rfl, Or.inl ⟨rfl, rfl⟩, rfl, by decide, by decide⟩
  · obtain ⟨s1, s2, s3⟩ := nD j hj
    obtain ⟨t1, t2, t3⟩ := qD j hj
    unfold zn_D
    rw [s1, s2, s3, t1, t2, t3]
    exact ⟨rfl, rfl, Or.inl ⟨rfl, rfl⟩⟩
  · obtain ⟨s1, s2⟩ := nC c hc
    refine Or.inl ⟨s1, s2, ?_⟩
    rw [qc]
    have h := zn_hasB (0 : Int32) hc (fx_N σ)
    rw [show (0 : Int32).toInt = 0 from rfl] at h
    rw [h]
    have e : (0 : Int32).toBitVec.getLsbD c = false := by
      rw [show (0 : Int32).toBitVec = 0#32 from rfl]
      exact BitVec.getLsbD_zero
    rw [e]
    rfl
/-- places that a call of the class leaves, one of the reference, one that has nothing to do with nights -/
def zw_m1 : List (Nat × Nat) := [(9, 5), (9, 6), (9, 7), (9, 8), (6, 1), (6, 2), (6, 3), (6, 4), (6, 5), (6, 6), (6, 7), (6, 8), (6, 9), (6, 10), (6, 11), (6, 12), (6, 13), (6, 14), (10, 0), (10, 1), (10, 2), (10, 45), (100, 0), (102, 0)]
def zw_m2 : List (Nat × Nat) := [(9, 5), (9, 6), (9, 7), (9, 8), (6, 0), (6, 1), (6, 2), (6, 3), (6, 4), (6, 5), (6, 6), (6, 7), (6, 8), (6, 9), (6, 10), (6, 11), (6, 12), (6, 13), (6, 14), (6, 15), (6, 16), (6, 17), (119, 0), (120, 0), (121, 0), (122, 0), (123, 0), (210, 0), (124, 0), (125, 0), (126, 0), (127, 0), (128, 0), (10, 0), (10, 1), (10, 2), (10, 45), (102, 0)]
def zw_m3 : List (Nat × Nat) := (100, 0) :: zw_m2
def zw_m6 : List (Nat × Nat) := [(6, 0), (6, 1), (6, 2), (6, 3), (6, 4), (6, 5), (6, 6), (6, 7), (6, 8), (6, 9), (6, 10), (6, 11), (6, 12), (6, 13), (6, 14), (6, 15), (6, 16), (6, 17)]
theorem zw_sub {K L md : List (Nat × Nat)} (hs : (K.all fun p => L.contains p) = true) (hm : (L.all fun p => !(md.contains p)) = true) : (K.all fun p => !(md.contains p)) = true := by
  rw [List.all_eq_true]
  intro p hp
  have h1 := List.all_eq_true.mp hs p hp
  have h2 : p ∈ L := by simpa using h1
  exact List.all_eq_true.mp hm p h2
theorem zn_R.D {N : Nat → Nat} {b : Nat} {D : Int} {u v : fx_U} (h : zn_R N b D u v) : u (N 0) 0 = D := h.1.1.1
theorem zn_R.mv {N : Nat → Nat} {b : Nat} {D : Int} {u v w z : fx_U} (hR : zn_R N b D u v) (k0 : ∀ j : Nat, j ≤ 17 → w (N 0) j = u (N 0) j) (k : ∀ j : Nat, 4 ≤ j → j ≤ 14 → ∀ i : Nat, w (N j) i = u (N j) i) (r : ∀ j : Nat, 192 ≤ j → j < 549 → z b j = v b j) : zn_R N b D w z := by
  obtain ⟨hG, hd, ⟨hA0, hA1⟩, hne, hC⟩ := hR
  refine ⟨?_, fun j hj => zn_Dm (hd j hj) ⟨k 4 (by decide) (by decide) j, k 5 (by decide) (by decide) j, k 6 (by decide) (by decide) j, k 7 (by decide) (by decide) j, k 8 (by decide) (by decide) j⟩ ⟨r _ (by omega) (by omega), r _ (by omega) (by omega), r _ (by omega) (by omega), r _ (by omega) (by omega), r _ (by omega) (by omega)⟩, ⟨zn_Am hA0 ⟨k 9 (by decide) (by decide) 0, k 10 (by decide) (by decide) 0, k 11 (by decide) (by decide) 0, k 12 (by decide) (by decide) 0⟩ (fun _ => k 5 (by decide) (by decide) _) ⟨r _ (by omega) (by omega), r _ (by omega) (by omega), r _ (by omega) (by omega), r _ (by omega) (by omega)⟩, zn_Am hA1 ⟨k 9 (by decide) (by decide) 1, k 10 (by decide) (by decide) 1, k 11 (by decide) (by decide) 1, k 12 (by decide) (by decide) 1⟩ (fun _ => k 5 (by decide) (by decide) _) ⟨r _ (by omega) (by omega), r _ (by omega) (by omega), r _ (by omega) (by omega), r _ (by omega) (by omega)⟩⟩, ?_, fun c hc => zn_Cm (hC c hc) ⟨k 13 (by decide) (by decide) c, k 14 (by decide) (by decide) c⟩ ⟨r _ (by omega) (by omega), r _ (by omega) (by omega), r _ (by omega) (by omega)⟩⟩
  · unfold zn_G at hG ⊢
    rw [k0 0 (by decide), k0 15 (by decide), k0 16 (by decide), k0 17 (by decide), r 512 (by decide) (by decide), r 513 (by decide) (by decide), r 514 (by decide) (by decide), r 515 (by decide) (by decide)]
    exact hG
  · rw [k 10 (by decide) (by decide) 0, k 10 (by decide) (by decide) 1]
    exact hne
section NightLoop
variable {τ : q_T} {σ s1 s2 : q_V} {a1 a2 : Nat} {N M O K : Nat → Nat} {b bm bo : Nat} {md md1 md2 : List (Nat × Nat)} {r1 r2 D : Int} {x1 x2 x3 y1 y2 y3 : Int32}
/-- a road's fields stay where none of them is written; its rows likewise -/
theorem zw_f {L : List (Nat × Nat)} (T : zw_T τ K) (S : q_S md τ σ s1) (hm : (L.all fun p => !(md.contains p)) = true) {j : Nat} (hp : (6, j) ∈ L) : fx_N s1 (K 0) j = fx_N σ (K 0) j := zi_o S hm (show τ (K 0) = some (6, 1) from T 0 (by decide)) (by decide) hp
theorem zw_r {L : List (Nat × Nat)} (T : zw_T τ K) (S : q_S md τ σ s1) (hm : (L.all fun p => !(md.contains p)) = true) {j : Nat} (h4 : 4 ≤ j) (hj : j ≤ 14) (hp : ∀ j : Nat, 4 ≤ j → j ≤ 14 → ((zw_k.getD j (0, 0)).1, 0) ∈ L) (i : Nat) : fx_N s1 (K j) i = fx_N σ (K j) i := by
  have Tj := T j hj
  have h2 : ¬ (zw_k.getD j (0, 0)).1 < 100 := by
    rcases (show j = 4 ∨ j = 5 ∨ j = 6 ∨ j = 7 ∨ j = 8 ∨ j = 9 ∨ j = 10 ∨ j = 11 ∨ j = 12 ∨ j = 13 ∨ j = 14 by omega) with rfl | rfl | rfl | rfl | rfl | rfl | rfl | rfl | rfl | rfl | rfl <;> decide
  exact zi_a S hm (k := (zw_k.getD j (0, 0)).1) (n := (zw_k.getD j (0, 0)).2) Tj h2 (hp j h4 hj) i
theorem zw_b {L : List (Nat × Nat)} {k : Nat} (T : τ b = some (k, 549)) (S : q_S md τ σ s1) (hm : (L.all fun p => !(md.contains p)) = true) (hk : ¬ k < 100) (hp : (k, 0) ∈ L) (i : Nat) : fx_N s1 b i = fx_N σ b i := zi_a S hm T hk hp i
theorem zw_Pf (T : zw_T τ K) (h : zn_P K (fx_N σ)) (S : q_S md τ σ s1) {L : List (Nat × Nat)} (hm : (L.all fun p => !(md.contains p)) = true) (hp : ∀ j : Nat, 1 ≤ j → j ≤ 14 → (6, j) ∈ L) : zn_P K (fx_N s1) := fun j j1 j2 => (zw_f T S hm (hp j j1 j2)).trans (h j j1 j2)
theorem zw_p6 : ∀ j : Nat, 1 ≤ j → j ≤ 14 → (6, j) ∈ zw_m1 := by
  intro j h1 h2
  rcases (show j = 1 ∨ j = 2 ∨ j = 3 ∨ j = 4 ∨ j = 5 ∨ j = 6 ∨ j = 7 ∨ j = 8 ∨ j = 9 ∨ j = 10 ∨ j = 11 ∨ j = 12 ∨ j = 13 ∨ j = 14 by omega) with rfl | rfl | rfl | rfl | rfl | rfl | rfl | rfl | rfl | rfl | rfl | rfl | rfl | rfl <;> decide
theorem zw_q6 : ∀ j : Nat, j ≤ 17 → (6, j) ∈ zw_m2 := by
  intro j h2
  rcases (show j = 0 ∨ j = 1 ∨ j = 2 ∨ j = 3 ∨ j = 4 ∨ j = 5 ∨ j = 6 ∨ j = 7 ∨ j = 8 ∨ j = 9 ∨ j = 10 ∨ j = 11 ∨ j = 12 ∨ j = 13 ∨ j = 14 ∨ j = 15 ∨ j = 16 ∨ j = 17 by omega) with rfl | rfl | rfl | rfl | rfl | rfl | rfl | rfl | rfl | rfl | rfl | rfl | rfl | rfl | rfl | rfl | rfl | rfl <;> decide
theorem zw_qr : ∀ j : Nat, 4 ≤ j → j ≤ 14 → ((zw_k.getD j (0, 0)).1, 0) ∈ zw_m2 := by
  intro j h1 h2
  rcases (show j = 4 ∨ j = 5 ∨ j = 6 ∨ j = 7 ∨ j = 8 ∨ j = 9 ∨ j = 10 ∨ j = 11 ∨ j = 12 ∨ j = 13 ∨ j = 14 by omega) with rfl | rfl | rfl | rfl | rfl | rfl | rfl | rfl | rfl | rfl | rfl <;> decide
/-- the class's side of a road stays over a call of the reference -/
theorem zw_Rc (T : zw_T τ K) (S : q_S md τ s1 s2) (hm : (zw_m2.all fun p => !(md.contains p)) = true) {v w : fx_U} (h : zn_R K b D (fx_N s1) v) (hv : ∀ j : Nat, 192 ≤ j → j < 549 → w b j = v b j) : zn_R K b D (fx_N s2) w := h.mv (fun j hj => zw_f T S hm (zw_q6 j hj)) (fun j h4 hj i => zw_r T S hm h4 hj zw_qr i) hv
/-- over a call that has nothing to do with nights -/
theorem zw_L.C (T1 : τ a1 = some (9, 1)) (T2 : τ a2 = some (10, 1)) (S : q_S md τ σ s1) (hm : (zw_m3.all fun p => !(md.contains p)) = true) (h : zw_L τ a1 a2 (fx_N σ)) : zw_L τ a1 a2 (fx_N s1) := by
  obtain ⟨N, M, O, b, bm, bo, ⟨⟨tN, tM, tO⟩, dd, ap⟩, ⟨tb, tbo, tbm⟩, ⟨h5, h6, h7⟩, ⟨g0, g1, g2⟩, ⟨pN, pM, pO⟩, hk, hR, hK⟩ := h
  have hm2 : (zw_m2.all fun p => !(md.contains p)) = true := zw_sub (by decide) hm
  have q8 : fx_N s1 a1 8 = fx_N σ a1 8 := zi_o S hm T1 (by decide) (by decide)
  have q45 : fx_N s1 a2 45 = fx_N σ a2 45 := zi_o S hm T2 (by decide) (by decide)
  have D0 : fx_N s1 (N 0) 0 = fx_N σ (N 0) 0 := zw_f tN S hm (by decide)
  have E0 : fx_N s1 (M 0) 0 = fx_N σ (M 0) 0 := zw_f tM S hm (by decide)
  refine ⟨N, M, O, b, bm, bo, ⟨⟨tN, tM, tO⟩, dd, ap⟩, ⟨tb, tbo, tbm⟩, ⟨(zi_o S hm T1 (by decide) (by decide)).trans h5, (zi_o S hm T1 (by decide) (by decide)).trans h6, (zi_o S hm T1 (by decide) (by decide)).trans h7⟩, ⟨(zi_o S hm T2 (by decide) (by decide)).trans g0, (zi_o S hm T2 (by decide) (by decide)).trans g1, (zi_o S hm T2 (by decide) (by decide)).trans g2⟩, ⟨zw_Pf tN pN S hm2 (fun j _ hj => zw_q6 j (by omega)), zw_Pf tM pM S hm2 (fun j _ hj => zw_q6 j (by omega)), zw_Pf tO pO S hm2 (fun j _ hj => zw_q6 j (by omega))⟩, by rw [q8, q45]; exact hk, ?_, ?_⟩
  · rw [D0]
    exact zw_Rc tN S hm2 hR (fun j _ _ => zw_b tb S hm (by decide) (by decide) j)
  · rw [q8, E0]
    rcases hK with h | h
    · exact Or.inl h
    · exact Or.inr (zw_Rc tM S hm2 h (fun j _ _ => zw_b tbm S hm (by decide) (by decide) j))
/-- what every call finds: cells apart -/
theorem zw_X {la bk : Nat} (T : zw_T τ K) (d : zp_dis 15 K) (Tl : τ la = some (3, 1)) (Tk : τ bk = some (117, 32)) : zn_X K la bk := ⟨fun j k hj hk _ h => d k j (by omega) (by omega) (Ne.symm h), fun j hj => ⟨zw_ne T Tl (zw_nx (by decide)) j hj, zw_ne T Tk (zw_nx (by decide)) j hj⟩, q_neT Tk Tl (by decide)⟩
theorem zw_X2 (d : zp_dis 15 K) : zn_X2 K := ⟨fun k hk h => d k 13 (by omega) (by decide) h, fun k hk h => d k 14 (by omega) (by decide) h, fun k hk h => d k 12 (by omega) (by decide) h, fun k hk h => d k 4 (by omega) (by decide) h⟩
theorem zw_Y {bq bf : Nat} (T2 : τ a2 = some (10, 1)) (Tb : τ b = some (100, 549)) (Tq : τ bq = some (162, 260)) (Tf : τ bf = some (163, 9)) : zn_Y a2 b bq bf := ⟨⟨q_neT Tb T2 (by decide), q_neT T2 Tb (by decide)⟩, ⟨q_neT T2 Tq (by decide), q_neT T2 Tf (by decide)⟩, q_neT Tb Tq (by decide), q_neT Tb Tf (by decide)⟩
/-- where both calls change the present road alone -/
theorem zw_step {la bk : Nat} {D2 : Int} (T1 : τ a1 = some (9, 1)) (T2 : τ a2 = some (10, 1)) (Tl : τ la = some (3, 1)) (Tk : τ bk = some (117, 32)) (S1 : q_S md1 τ σ s1) (hm1 : (zw_m1.all fun p => !(md1.contains p)) = true) (S2 : q_S md2 τ s1 s2) (hm2 : (zw_m2.all fun p => !(md2.contains p)) = true) (h : zw_P τ a1 a2 N M O b bm bo (fx_N σ)) (fr : zn_fr N la bk (fx_N σ) (fx_N s1)) (R : zn_R N b D2 (fx_N s1) (fx_N s2)) : zw_L τ a1 a2 (fx_N s2) := by
  obtain ⟨⟨⟨tN, tM, tO⟩, dd, ap⟩, ⟨tb, tbo, tbm⟩, ⟨h5, h6, h7⟩, ⟨g0, g1, g2⟩, ⟨pN, pM, pO⟩, hk, hR, hK⟩ := h
  have o1 : ∀ j : Nat, (9, j) ∈ zw_m1 → (9, j) ∈ zw_m2 → fx_N s2 a1 j = fx_N σ a1 j := fun j j1 j2 => (zi_o S2 hm2 T1 (by decide) j2).trans (zi_o S1 hm1 T1 (by decide) j1)
  have o2 : ∀ j : Nat, (10, j) ∈ zw_m1 → (10, j) ∈ zw_m2 → fx_N s2 a2 j = fx_N σ a2 j := fun j j1 j2 => (zi_o S2 hm2 T2 (by decide) j2).trans (zi_o S1 hm1 T2 (by decide) j1)
  have pf : ∀ {K : Nat → Nat}, zw_T τ K → zn_P K (fx_N σ) → zn_P K (fx_N s2) := fun t p => zw_Pf t (zw_Pf t p S1 hm1 zw_p6) S2 hm2 (fun j _ hj => zw_q6 j (by omega))
  have mf : ∀ j : Nat, j ≤ 14 → ∀ i : Nat, fx_N s1 (M j) i = fx_N σ (M j) i := fun j hj i => fr (M j) (zw_ne tM Tl (zw_nx (by decide)) j hj) (zw_ne tM Tk (zw_nx (by decide)) j hj) (fun k hk => Ne.symm (ap.1 k j hk hj)) i
  have q8 := o1 8 (by decide) (by decide)
  refine ⟨N, M, O, b, bm, bo, ⟨⟨tN, tM, tO⟩, dd, ap⟩, ⟨tb, tbo, tbm⟩, ⟨(o1 5 (by decide) (by decide)).trans h5, (o1 6 (by decide) (by decide)).trans h6, (o1 7 (by decide) (by decide)).trans h7⟩, ⟨(o2 0 (by decide) (by decide)).trans g0, (o2 1 (by decide) (by decide)).trans g1, (o2 2 (by decide) (by decide)).trans g2⟩, ⟨pf tN pN, pf tM pM, pf tO pO⟩, by rw [q8, o2 45 (by decide) (by decide)]; exact hk, ?_, ?_⟩
  · have R2 := zw_Rc tN S2 hm2 R (fun j _ _ => rfl)
    rw [R2.D]
    exact R2
  · rw [q8]
    rcases hK with e | e
    · exact Or.inl e
    · have e1 : zn_R M bm (fx_N σ (M 0) 0) (fx_N s1) (fx_N s1) := e.mv (fun j _ => mf 0 (by decide) j) (fun j _ hj i => mf j hj i) (fun j _ _ => zw_b tbm S1 hm1 (by decide) (by decide) j)
      have e2 := zw_Rc tM S2 hm2 e1 (fun j _ _ => zw_b tbm S2 hm2 (by decide) (by decide) j)
      refine Or.inr ?_
      rw [e2.D]
      exact e2
/-- what a pair of calls begins with -/
def zw_H (τ : q_T) (σ s1 s2 : q_V) (a1 a2 : Nat) : Prop := q_I τ σ ∧ (τ a1 = some (9, 1) ∧ τ a2 = some (10, 1)) ∧ (∃ md1 : List (Nat × Nat), q_S md1 τ σ s1 ∧ (zw_m1.all fun p => !(md1.contains p)) = true) ∧ (∃ md2 : List (Nat × Nat), q_S md2 τ s1 s2 ∧ (zw_m2.all fun p => !(md2.contains p)) = true) ∧ zw_L τ a1 a2 (fx_N σ)
theorem zw_H.mk (hI : q_I τ σ) (T1 : τ a1 = some (9, 1)) (T2 : τ a2 = some (10, 1)) (S1 : q_S md1 τ σ s1) (hm1 : (zw_m1.all fun p => !(md1.contains p)) = true) (S2 : q_S md2 τ s1 s2) (hm2 : (zw_m2.all fun p => !(md2.contains p)) = true) (h : zw_L τ a1 a2 (fx_N σ)) : zw_H τ σ s1 s2 a1 a2 := ⟨hI, ⟨T1, T2⟩, ⟨md1, S1, hm1⟩, ⟨md2, S2, hm2⟩, h⟩
/-- the roads, the class's law, the reference's work rows -/
theorem zw_H.go (H : zw_H τ σ s1 s2 a1 a2) : ∃ (N M O : Nat → Nat) (b bm bo la bk bq bf : Nat) (D : Int), zw_P τ a1 a2 N M O b bm bo (fx_N σ) ∧ (τ la = some (3, 1) ∧ τ bk = some (117, 32)) ∧ (fx_N σ a1 4 = (la : Int) ∧ fx_N σ la 8 = (bk : Int)) ∧ (zn_X N la bk ∧ zn_X2 N ∧ zn_Y a2 b bq bf) ∧ ((8 ≤ D ∧ D ≤ 64) ∧ zn_R N b D (fx_N σ) (fx_N s1)) ∧ (zn_P N (fx_N σ) ∧ fx_N σ a1 5 = (N 0 : Int) ∧ fx_N s1 a2 0 = (b : Int)) ∧ (∀ {D2 : Int}, zn_fr N la bk (fx_N σ) (fx_N s1) → zn_R N b D2 (fx_N s1) (fx_N s2) → zw_L τ a1 a2 (fx_N s2)) ∧ (fx_N s1 a2 27 = (bq : Int) ∧ fx_N s1 a2 28 = (bf : Int)) ∧ τ bq = some (162, 260) ∧ τ bf = some (163, 9) := by
  obtain ⟨hI, ⟨T1, T2⟩, ⟨md1, S1, hm1⟩, ⟨md2, S2, hm2⟩, hL⟩ := H
  obtain ⟨N, M, O, b, bm, bo, h⟩ := hL
  have h0 := h
  obtain ⟨⟨⟨tN, tM, tO⟩, ⟨dN, dM, dO⟩, ap⟩, ⟨tb, tbo, tbm⟩, ⟨h5, h6, h7⟩, ⟨g0, g1, g2⟩, ⟨pN, pM, pO⟩, hk, hR, hK⟩ := h
  obtain ⟨la, e4, Tl⟩ := (hI a1 9 1 T1 4 (by decide)).ref (k := 3) (n := 1) rfl
  obtain ⟨bk, e8, Tk⟩ := (hI la 3 1 Tl 8 (by decide)).ref (k := 117) (n := 32) rfl
  obtain ⟨bq, r27, Tq⟩ := (S1.1 a2 10 1 T2 27 (by decide)).ref (k := 162) (n := 260) rfl
  obtain ⟨bf, r28, Tf⟩ := (S1.1 a2 10 1 T2 28 (by decide)).ref (k := 163) (n := 9) rfl
  obtain ⟨x, d1, d2⟩ := (hI (N 0) 6 1 (tN 0 (by decide)) 0 (by decide)).int (lo := 8) (hi := 64) rfl
  have hD : 8 ≤ fx_N σ (N 0) 0 ∧ fx_N σ (N 0) 0 ≤ 64 := by
    rw [zz_N d1]
    exact d2
  exact ⟨N, M, O, b, bm, bo, la, bk, bq, bf, fx_N σ (N 0) 0, h0, ⟨Tl, Tk⟩, ⟨zz_NR e4, zz_NR e8⟩, ⟨zw_X tN dN Tl Tk, zw_X2 dN, zw_Y T2 tb Tq Tf⟩, ⟨hD, hR.mv (fun _ _ => rfl) (fun _ _ _ _ => rfl) (fun j _ _ => zw_b tb S1 hm1 (by decide) (by decide) j)⟩, ⟨pN, h5, (zi_o S1 hm1 T2 (by decide) (by decide)).trans g0⟩, fun fr R => zw_step T1 T2 Tl Tk S1 hm1 S2 hm2 h0 fr R, ⟨zz_NR r27, zz_NR r28⟩, Tq, Tf⟩
theorem zw_fin {α β : Type} {p q : α × β} {m : α} {r1 r2 : α} {w z u1 u2 : β} (e1 : (r1, u1) = p) (k1 : p = (m, w)) (e2 : (r2, u2) = q) (k2 : q = (m, z)) : r1 = r2 ∧ w = u1 ∧ z = u2 := by
  rw [k1] at e1
  rw [k2] at e2
  cases e1
  cases e2
  exact ⟨rfl, rfl, rfl⟩
theorem zw_cones (H : zw_H τ σ s1 s2 a1 a2) (e1 : (r1, fx_N s1) = f_X11_cones (fx_N σ) a1 x1.toInt) (e2 : (r2, fx_N s2) = f_X12_cones (fx_N s1) a2 y1.toInt) (q1 : y1.toInt = x1.toInt) : r1 = r2 ∧ zw_L τ a1 a2 (fx_N s2) := by
  rw [q1] at e2
  obtain ⟨N, M, O, b, bm, bo, la, bk, bq, bf, D, -, -, -, ⟨X, X2, Y⟩, ⟨hD, hR⟩, ⟨hP, h5, h0⟩, fin, -, -, -⟩ := H.go
  obtain ⟨w, z, m, k1, k2, f, R⟩ := zn_conesW (x := x1.toInt) X h5 h0 hR
  obtain ⟨e, rfl, rfl⟩ := zw_fin e1 k1 e2 k2
  exact ⟨e, fin f R⟩
theorem zw_dew (H : zw_H τ σ s1 s2 a1 a2) (e1 : (r1, fx_N s1) = f_X11_dew (fx_N σ) a1 x1.toInt) (e2 : (r2, fx_N s2) = f_X12_dew (fx_N s1) a2 y1.toInt) (q1 : y1.toInt = x1.toInt) : r1 = r2 ∧ zw_L τ a1 a2 (fx_N s2) := by
  rw [q1] at e2
  obtain ⟨N, M, O, b, bm, bo, la, bk, bq, bf, D, -, -, -, ⟨X, X2, Y⟩, ⟨hD, hR⟩, ⟨hP, h5, h0⟩, fin, -, -, -⟩ := H.go
  obtain ⟨w, z, m, k1, k2, f, R⟩ := zn_dewW (x := x1.toInt) X h5 h0 hR
  obtain ⟨e, rfl, rfl⟩ := zw_fin e1 k1 e2 k2
  exact ⟨e, fin f R⟩
theorem zw_car (H : zw_H τ σ s1 s2 a1 a2) (e1 : (r1, fx_N s1) = f_X11_car (fx_N σ) a1 x1.toInt x2.toInt x3.toInt) (e2 : (r2, fx_N s2) = f_X12_car (fx_N s1) a2 y1.toInt y2.toInt y3.toInt) (q1 : y1.toInt = x1.toInt) (q2 : y2.toInt = x2.toInt) (q3 : y3.toInt = x3.toInt) : r1 = r2 ∧ zw_L τ a1 a2 (fx_N s2) := by
  rw [q1, q2, q3] at e2
  obtain ⟨N, M, O, b, bm, bo, la, bk, bq, bf, D, hp, -, -, ⟨X, X2, Y⟩, ⟨hD, hR⟩, ⟨hP, h5, h0⟩, fin, -, -, -⟩ := H.go
  obtain ⟨c, g1, -⟩ := (H.2.2.1.choose_spec.1.1 b 100 549 hp.2.1.1 524 (by decide)).int (lo := -2147483648) (hi := 2147483647) rfl
  obtain ⟨w, z, m, k1, k2, f, R⟩ := zn_carW (x1 := x1.toInt) (x2 := x2.toInt) (x3 := x3.toInt) X2 hP h5 h0 hR ⟨c, zz_N g1⟩
  obtain ⟨e, rfl, rfl⟩ := zw_fin e1 k1 e2 k2
  exact ⟨e, fin f R⟩
theorem zw_party (H : zw_H τ σ s1 s2 a1 a2) (hx : x2.toInt = 0 ∨ x2.toInt = 1) (e1 : (r1, fx_N s1) = f_X11_party (fx_N σ) a1 x1.toInt x2.toInt x3.toInt) (e2 : (r2, fx_N s2) = f_X12_party (fx_N s1) a2 y1.toInt y2.toInt y3.toInt) (q1 : y1.toInt = x1.toInt) (q2 : y2.toInt = x2.toInt) (q3 : y3.toInt = x3.toInt) : r1 = r2 ∧ zw_L τ a1 a2 (fx_N s2) := by
  rw [q1, q2, q3] at e2
  obtain ⟨N, M, O, b, bm, bo, la, bk, bq, bf, D, hp, ⟨Tl, Tk⟩, -, ⟨X, X2, Y⟩, ⟨hD, hR⟩, ⟨hP, h5, h0⟩, fin, -, -, -⟩ := H.go
  have T1 := H.2.1.1
  obtain ⟨w, z, m, k1, k2, f, R⟩ := zn_partyW (x1 := x1.toInt) (x2 := x2.toInt) (x3 := x3.toInt) X X2 Y hP h5 ⟨q_neT T1 Tl (by decide), q_neT T1 Tk (by decide), fun j hj => Ne.symm (zw_ne hp.1.1.1 T1 (zw_nx (by decide)) j hj)⟩ h0 hR hD hx
  obtain ⟨e, rfl, rfl⟩ := zw_fin e1 k1 e2 k2
  exact ⟨e, fin f R⟩
theorem zw_old (H : zw_H τ σ s1 s2 a1 a2) (e1 : (r1, fx_N s1) = f_X11_old (fx_N σ) a1 x1.toInt x2.toInt x3.toInt) (e2 : (r2, fx_N s2) = f_X12_old (fx_N s1) a2 y1.toInt y2.toInt y3.toInt) (q1 : y1.toInt = x1.toInt) (q2 : y2.toInt = x2.toInt) (q3 : y3.toInt = x3.toInt) : r1 = r2 ∧ zw_L τ a1 a2 (fx_N s2) := by
  rw [q1, q2, q3] at e2
  obtain ⟨N, M, O, b, bm, bo, la, bk, bq, bf, D, hp, ⟨Tl, Tk⟩, -, ⟨X, X2, Y⟩, ⟨hD, hR⟩, ⟨hP, h5, h0⟩, fin, -, -, -⟩ := H.go
  obtain ⟨w, z, m, k1, k2, f, R⟩ := zn_oldW (la := la) (bk := bk) (x1 := x1.toInt) (x2 := x2.toInt) (x3 := x3.toInt) X2 hP h5 h0 hR hD
  obtain ⟨e, rfl, rfl⟩ := zw_fin e1 k1 e2 k2
  exact ⟨e, fin f R⟩
theorem zw_road (H : zw_H τ σ s1 s2 a1 a2) (e1 : (r1, fx_N s1) = f_X11_road (fx_N σ) a1 x1.toInt) (e2 : (r2, fx_N s2) = f_X12_road (fx_N s1) a2 y1.toInt) (q1 : y1.toInt = x1.toInt) : r1 = r2 ∧ zw_L τ a1 a2 (fx_N s2) := by
  rw [q1] at e2
  obtain ⟨N, M, O, b, bm, bo, la, bk, bq, bf, D, hp, ⟨Tl, Tk⟩, -, ⟨X, X2, Y⟩, ⟨hD, hR⟩, ⟨hP, h5, h0⟩, fin, -, -, -⟩ := H.go
  obtain ⟨w, z, m, D2, -, k1, k2, f, R⟩ := zn_roadW (x := x1.toInt) X X2 Y hP h5 h0 hR hD
  obtain ⟨e, rfl, rfl⟩ := zw_fin e1 k1 e2 k2
  exact ⟨e, fin f R⟩
theorem zw_burns (H : zw_H τ σ s1 s2 a1 a2) (e1 : (r1, fx_N s1) = f_X11_burns (fx_N σ) a1 x1.toInt x2.toInt) (e2 : (r2, fx_N s2) = f_X12_burns (fx_N s1) a2 y1.toInt y2.toInt) (q1 : y1.toInt = x1.toInt) (q2 : y2.toInt = x2.toInt) : r1 = r2 ∧ zw_L τ a1 a2 (fx_N s2) := by
  rw [q1, q2] at e2
  obtain ⟨N, M, O, b, bm, bo, la, bk, bq, bf, D, hp, ⟨Tl, Tk⟩, -, ⟨X, X2, Y⟩, ⟨hD, hR⟩, ⟨hP, h5, h0⟩, fin, -, -, -⟩ := H.go
  obtain ⟨w, z, m, k1, k2, f, R⟩ := zn_burnsW (x1 := x1.toInt) (x2 := x2.toInt) X Y hP h5 h0 hR hD
  obtain ⟨e, rfl, rfl⟩ := zw_fin e1 k1 e2 k2
  exact ⟨e, fin f R⟩
/-! the law in the night -/
theorem zv_hc.to {la bk sg vl l5 l6 l7 ar c0 c1 c2 ar2 d0 d1 d2 : Nat} {R : zl_L} {u w : fx_U} (h : zv_hc la bk sg vl l5 l6 l7 ar c0 c1 c2 D R u) (k1 : ∀ j : Nat, j < 9 → w la j = u la j) (k2 : ∀ d : Nat, (d = sg ∨ d = vl ∨ d = l5 ∨ d = l6 ∨ d = l7) → ∀ i : Nat, w d i = u d i) (kr : w ar2 0 = D ∧ w ar2 1 = (d0 : Int) ∧ w ar2 2 = (d1 : Int) ∧ w ar2 3 = (d2 : Int)) : zv_hc la bk sg vl l5 l6 l7 ar2 d0 d1 d2 D R w := by
  obtain ⟨⟨⟨h0, h1⟩, ⟨h3, h4, h5, h6, h7, h8⟩, hL⟩, -⟩ := h
  have e1 : w la 1 = u la 1 := k1 1 (by decide)
  refine ⟨⟨⟨(k1 0 (by decide)).trans h0, by omega⟩, ⟨(k1 3 (by decide)).trans h3, (k1 4 (by decide)).trans h4, (k1 5 (by decide)).trans h5, (k1 6 (by decide)).trans h6, (k1 7 (by decide)).trans h7, (k1 8 (by decide)).trans h8⟩, ?_⟩, kr⟩
  rw [e1]
  exact zv_Lc_mv (Int.le_refl _) (fun i _ => ⟨k2 sg (Or.inl rfl) i, k2 vl (Or.inr (Or.inl rfl)) i⟩) R 0 (fun i _ _ => ⟨k2 l5 (Or.inr (Or.inr (Or.inl rfl))) i, k2 l6 (Or.inr (Or.inr (Or.inr (Or.inl rfl)))) i, k2 l7 (Or.inr (Or.inr (Or.inr (Or.inr rfl)))) i⟩) hL
theorem zn_qc.eq {la bk : Nat} {A B A2 B2 : Int → Int → Int → Int} {u : fx_U} (h : zn_qc N la bk A B D u) (k : zn_qc N la bk A2 B2 D u) {i t p : Int} (i0 : 0 ≤ i) (i1 : i < D) (hp : p = 0 ∨ p = 1) : A2 i t p = A i t p ∧ B2 i t p = B i t p := by
  obtain ⟨⟨y, e1, -⟩, z, e2, -⟩ := h u zn_ca.rf i t p i0 i1 hp
  obtain ⟨⟨y', f1, -⟩, z', f2, -⟩ := k u zn_ca.rf i t p i0 i1 hp
  rw [e1] at f1
  rw [e2] at f2
  exact ⟨(Prod.mk.inj f1).1.symm, (Prod.mk.inj f2).1.symm⟩
theorem zn_qr.as {bq bf : Nat} {A B A2 B2 : Int → Int → Int → Int} {v : fx_U} (h : zn_qr a2 b bq bf A2 B2 D v) (k : ∀ i t p : Int, 0 ≤ i → i < D → (p = 0 ∨ p = 1) → A2 i t p = A i t p ∧ B2 i t p = B i t p) : zn_qr a2 b bq bf A B D v := fun z hz i t p i0 i1 hp => by
  obtain ⟨⟨y, e1, g1⟩, z', e2, g2⟩ := h z hz i t p i0 i1 hp
  obtain ⟨k1, k2⟩ := k i t p i0 i1 hp
  rw [k1] at e1
  rw [k2] at e2
  exact ⟨⟨y, e1, g1⟩, z', e2, g2⟩
/-- the rows of both, as the loop knows them -/
def zw_Q (σ : q_V) (a1 a2 : Nat) : Prop := ∃ br bn c0 c1 c2 : Nat, σ a1 5 = .ref br ∧ (σ br 1 = .ref c0 ∧ σ br 2 = .ref c1 ∧ σ br 3 = .ref c2) ∧ σ a2 0 = .ref bn ∧ zz_rs (fx_N σ) c0 c1 c2 bn
theorem zw_Q.mk {br bn c0 c1 c2 : Nat} (h5 : σ a1 5 = .ref br) (hc : σ br 1 = .ref c0 ∧ σ br 2 = .ref c1 ∧ σ br 3 = .ref c2) (h0 : σ a2 0 = .ref bn) (h : zz_rs (fx_N σ) c0 c1 c2 bn) : zw_Q σ a1 a2 := ⟨br, bn, c0, c1, c2, h5, hc, h0, h⟩
theorem zw_rowK {d kd : Int} {cs : Nat} (hd : d ≤ 64) (Kr : ∃ q V1 : Nat, τ q = some (7, 1) ∧ τ V1 = some (111, 64) ∧ zz_RR a1 q V1 b (fx_N σ) (fx_N s1) d kd cs (r1, fx_N s1) (r2, fx_N s2)) : ∀ j : Nat, 192 ≤ j → fx_N s2 b j = fx_N s1 b j := fun j hj => by
  obtain ⟨q, V1, -, -, -, -, g⟩ := Kr
  rcases g with ⟨-, -, g⟩ | ⟨-, hk, V, -, -, g⟩
  · exact g j
  · refine (g j).trans ?_
    rw [if_neg (by omega)]
theorem zw_cast {x y : Nat} {e : Int} (h : e = (x : Int)) (k : e = (y : Int)) : x = y := by omega
theorem zw_Q.go (h : zw_Q σ a1 a2) (p5 : fx_N σ a1 5 = (N 0 : Int)) (pN : zn_P N (fx_N σ)) (g0 : fx_N σ a2 0 = (b : Int)) : zz_rs (fx_N σ) (N 1) (N 2) (N 3) b := by
  obtain ⟨br, bn, c0, c1, c2, h5, ⟨h1, h2, h3⟩, h0, hr⟩ := h
  have e : br = N 0 := zw_cast (zz_NR h5) p5
  have eb : bn = b := zw_cast (zz_NR h0) g0
  subst e eb
  have e1 : c0 = N 1 := zw_cast (zz_NR h1) (pN 1 (by decide) (by decide))
  have e2 : c1 = N 2 := zw_cast (zz_NR h2) (pN 2 (by decide) (by decide))
  have e3 : c2 = N 3 := zw_cast (zz_NR h3) (pN 3 (by decide) (by decide))
  subst e1 e2 e3
  exact hr
/-- both are asked the same, on the present road and on the one for trials -/
theorem zw_base {la bk bq bf : Nat} (hI : q_I τ σ) (T1 : τ a1 = some (9, 1)) (T2 : τ a2 = some (10, 1)) (S1 : q_S md1 τ σ s1) (hm1 : (zi_p1.all fun p => !(md1.contains p)) = true) (hm : (zw_m1.all fun p => !(md1.contains p)) = true) (hL : zi_L a1 a2 (fx_N σ)) (hp : zw_P τ a1 a2 N M O b bm bo (fx_N σ)) (hrs : zz_rs (fx_N σ) (N 1) (N 2) (N 3) b) (rD : 8 ≤ D ∧ D ≤ 64) (uD : fx_N σ (N 0) 0 = D) (vD : fx_N s1 b 512 = D) (Tl : τ la = some (3, 1)) (Tk : τ bk = some (117, 32)) (e4 : fx_N σ a1 4 = (la : Int)) (e8 : fx_N σ la 8 = (bk : Int)) (r27 : fx_N s1 a2 27 = (bq : Int)) (r28 : fx_N s1 a2 28 = (bf : Int)) (Tq : τ bq = some (162, 260)) (Tf : τ bf = some (163, 9)) : ∃ A B : Int → Int → Int → Int, (zn_qc N la bk A B D (fx_N σ) ∧ zn_qr a2 b bq bf A B D (fx_N s1) ∧ zp_bd A B D) ∧ (∀ w : fx_U, (∀ c : Nat, (∀ j : Nat, j ≤ 14 → c ≠ O j) → ∀ i : Nat, w c i = fx_N σ c i) → zn_P O w → w (O 0) 0 = D → (∀ k j : Nat, 1 ≤ k → k ≤ 3 → j < 64 → w (O k) j = fx_N σ (N k) j) → zn_qc O la bk A B D w) ∧ ∀ z : fx_U, (∀ c : Nat, c ≠ bo → ∀ i : Nat, z c i = fx_N s1 c i) → zn_qr a2 b bq bf A B D z := by
  obtain ⟨⟨⟨tN, tM, tO⟩, ⟨dN, dM, dO⟩, apM, apO, -⟩, ⟨tb, tbo, tbm⟩, -, ⟨g0, -, -⟩, ⟨pN, -, -⟩, -, -, -⟩ := hp
  obtain ⟨R, q, lf, lr, sg1, v1, x5, x6, x7, g2, v2, y5, y6, y7, bc, bcl, bcf, bch, bct, hP⟩ := hL
  obtain ⟨⟨Tqq, Tf2, Tr⟩, ⟨A3, A4, A5, A6, A7⟩, -, C1, C2, C3, C4, C5⟩ := hP.T hI T1 T2
  obtain ⟨⟨⟨p3, p4, -⟩, -, ⟨f3, f4, f5, f6, f7⟩, -, -⟩, ⟨⟨k0, k1, -⟩, cL⟩, ⟨⟨d13, d21, d22, d23, d24, d25⟩, dL⟩, hE, hR⟩ := hP
  have el : lf = la := zw_cast p4 e4
  subst el
  have hc1 : zv_hc lf bk sg1 v1 x5 x6 x7 (N 0) (N 1) (N 2) (N 3) D R (fx_N σ) := ⟨⟨⟨k0, k1⟩, ⟨f3, f4, f5, f6, f7, e8⟩, cL⟩, uD, pN 1 (by decide) (by decide), pN 2 (by decide) (by decide), pN 3 (by decide) (by decide)⟩
  have hr1 : zv_hr a2 b bq bc bf bcl bcf bch bct D R (fx_N s1) := by
    refine ⟨⟨(zi_o S1 hm1 T2 (by decide) (by decide)).trans d13, (zi_o S1 hm1 T2 (by decide) (by decide)).trans d21, (zi_o S1 hm1 T2 (by decide) (by decide)).trans d22, (zi_o S1 hm1 T2 (by decide) (by decide)).trans d23, (zi_o S1 hm1 T2 (by decide) (by decide)).trans d24, (zi_o S1 hm1 T2 (by decide) (by decide)).trans d25, r27, r28⟩, ⟨(zi_o S1 hm T2 (by decide) (by decide)).trans g0, vD⟩, zv_Lr_mv (fun d hd i => ?_) R 0 dL⟩
    rcases hd with e | e | e | e | e <;> rw [e]
    · exact zi_a S1 hm1 C1 (by decide) (by decide) i
    · exact zi_a S1 hm1 C2 (by decide) (by decide) i
    · exact zi_a S1 hm1 C3 (by decide) (by decide) i
    · exact zi_a S1 hm1 C4 (by decide) (by decide) i
    · exact zi_a S1 hm1 C5 (by decide) (by decide) i
  have hap : ∀ {K : Nat → Nat}, zw_T τ K → zv_ap lf bk sg1 v1 x5 x6 x7 (K 0) (K 1) (K 2) (K 3) := fun t => ⟨⟨q_neT Tl Tk (by decide), q_neT Tk Tl (by decide)⟩, ⟨q_neT A3 Tl (by decide), q_neT A3 Tk (by decide)⟩, ⟨q_neT A4 Tl (by decide), q_neT A4 Tk (by decide)⟩, ⟨q_neT A5 Tl (by decide), q_neT A5 Tk (by decide)⟩, ⟨q_neT A6 Tl (by decide), q_neT A6 Tk (by decide)⟩, ⟨q_neT A7 Tl (by decide), q_neT A7 Tk (by decide)⟩, ⟨zw_ne t Tl (zw_nx (by decide)) 0 (by decide), zw_ne t Tk (zw_nx (by decide)) 0 (by decide)⟩, ⟨zw_ne t Tl (zw_nx (by decide)) 1 (by decide), zw_ne t Tk (zw_nx (by decide)) 1 (by decide)⟩, ⟨zw_ne t Tl (zw_nx (by decide)) 2 (by decide), zw_ne t Tk (zw_nx (by decide)) 2 (by decide)⟩, ⟨zw_ne t Tl (zw_nx (by decide)) 3 (by decide), zw_ne t Tk (zw_nx (by decide)) 3 (by decide)⟩⟩
  have haq : zv_aq a2 b bq bc bf bcl bcf bch bct := ⟨q_neT Tf Tq (by decide), ⟨q_neT T2 Tq (by decide), q_neT T2 Tf (by decide)⟩, ⟨q_neT tb Tq (by decide), q_neT tb Tf (by decide)⟩, ⟨q_neT C1 Tq (by decide), q_neT C1 Tf (by decide)⟩, ⟨q_neT C2 Tq (by decide), q_neT C2 Tf (by decide)⟩, ⟨q_neT C3 Tq (by decide), q_neT C3 Tf (by decide)⟩, ⟨q_neT C4 Tq (by decide), q_neT C4 Tf (by decide)⟩, ⟨q_neT C5 Tq (by decide), q_neT C5 Tf (by decide)⟩⟩
  have six : ∀ {K : Nat → Nat} {d : Nat} {x : Nat × Nat}, zw_T τ K → τ d = some x → (x = (112, 240) ∨ x = (113, 240) ∨ x = (114, 16) ∨ x = (115, 16) ∨ x = (116, 16)) → d ≠ lf ∧ d ≠ bk ∧ d ≠ K 0 ∧ ∀ j : Nat, 5 ≤ j → j ≤ 11 → d ≠ K j := fun t hd hx => by
    rcases hx with rfl | rfl | rfl | rfl | rfl <;> exact ⟨q_neT hd Tl (by decide), q_neT hd Tk (by decide), Ne.symm (zw_ne t hd (zw_nx (by decide)) 0 (by decide)), fun j _ hj => Ne.symm (zw_ne t hd (zw_nx (by decide)) j (by omega))⟩
  have nK : ∀ {K : Nat → Nat}, zw_T τ K → zp_dis 15 K → ∀ d : Nat, (d = sg1 ∨ d = v1 ∨ d = x5 ∨ d = x6 ∨ d = x7 ∨ d = K 1 ∨ d = K 2 ∨ d = K 3) → d ≠ lf ∧ d ≠ bk ∧ d ≠ K 0 ∧ ∀ j : Nat, 5 ≤ j → j ≤ 11 → d ≠ K j := fun {K} t dd d hd => by
    have row : ∀ k : Nat, 1 ≤ k → k ≤ 3 → K k ≠ lf ∧ K k ≠ bk ∧ K k ≠ K 0 ∧ ∀ j : Nat, 5 ≤ j → j ≤ 11 → K k ≠ K j := fun k q1 q2 => ⟨zw_ne t Tl (zw_nx (by decide)) k (by omega), zw_ne t Tk (zw_nx (by decide)) k (by omega), dd k 0 (by omega) (by decide) (by omega), fun j q3 q4 => dd k j (by omega) (by omega) (by omega)⟩
    rcases hd with e | e | e | e | e | e | e | e <;> rw [e]
    · exact six t A3 (by decide)
    · exact six t A4 (by decide)
    · exact six t A5 (by decide)
    · exact six t A6 (by decide)
    · exact six t A7 (by decide)
    · exact row 1 (by decide) (by decide)
    · exact row 2 (by decide) (by decide)
    · exact row 3 (by decide) (by decide)
  have nJ : ∀ d : Nat, (d = bc ∨ d = bcl ∨ d = bcf ∨ d = bch ∨ d = bct) → d ≠ a2 ∧ d ≠ b ∧ d ≠ bq ∧ d ≠ bf := fun d hd => by
    rcases hd with e | e | e | e | e <;> rw [e]
    · exact ⟨q_neT C1 T2 (by decide), q_neT C1 tb (by decide), q_neT C1 Tq (by decide), q_neT C1 Tf (by decide)⟩
    · exact ⟨q_neT C2 T2 (by decide), q_neT C2 tb (by decide), q_neT C2 Tq (by decide), q_neT C2 Tf (by decide)⟩
    · exact ⟨q_neT C3 T2 (by decide), q_neT C3 tb (by decide), q_neT C3 Tq (by decide), q_neT C3 Tf (by decide)⟩
    · exact ⟨q_neT C4 T2 (by decide), q_neT C4 tb (by decide), q_neT C4 Tq (by decide), q_neT C4 Tf (by decide)⟩
    · exact ⟨q_neT C5 T2 (by decide), q_neT C5 tb (by decide), q_neT C5 Tq (by decide), q_neT C5 Tf (by decide)⟩
  have vb : ∀ i : Nat, fx_N s1 b i = fx_N σ b i := fun i => zw_b tb S1 hm (by decide) (by decide) i
  have hrow : ∀ k : Nat, k < 64 → fx_N s1 b k = fx_N σ (N 1) k ∧ fx_N s1 b (64 + k) = fx_N σ (N 2) k ∧ fx_N s1 b (128 + k) = fx_N σ (N 3) k := fun k hk => by
    obtain ⟨⟨z1, z2, z3⟩, -⟩ := hrs k hk
    exact ⟨(vb k).trans z1.symm, (vb (64 + k)).trans z2.symm, (vb (128 + k)).trans z3.symm⟩
  obtain ⟨Q1, Q2, Q3⟩ := zn_base (N := N) (hap tN) haq hc1 hr1 hE hR rD.2 hrow (nK tN dN) nJ
  refine ⟨_, _, ⟨Q1, Q2, Q3⟩, fun w hw pO oD ho => ?_, fun z hz => ?_⟩
  · have cw : ∀ {d : Nat} {x : Nat × Nat}, τ d = some x → (∀ j : Nat, j ≤ 14 → zw_k.getD j (0, 0) ≠ x) → ∀ i : Nat, w d i = fx_N σ d i := fun hd hx i => hw _ (fun j hj => Ne.symm (zw_ne tO hd hx j hj)) i
    have hc2 : zv_hc lf bk sg1 v1 x5 x6 x7 (O 0) (O 1) (O 2) (O 3) D R w := hc1.to (fun j _ => cw Tl (zw_nx (by decide)) j) (fun d hd i => by
      rcases hd with e | e | e | e | e <;> rw [e]
      · exact cw A3 (zw_nx (by decide)) i
      · exact cw A4 (zw_nx (by decide)) i
      · exact cw A5 (zw_nx (by decide)) i
      · exact cw A6 (zw_nx (by decide)) i
      · exact cw A7 (zw_nx (by decide)) i) ⟨oD, pO 1 (by decide) (by decide), pO 2 (by decide) (by decide), pO 3 (by decide) (by decide)⟩
    exact (zn_base (N := O) (hap tO) haq hc2 hr1 hE hR rD.2 (fun k hk => by
      obtain ⟨z1, z2, z3⟩ := hrow k hk
      exact ⟨z1.trans (ho 1 k (by decide) (by decide) hk).symm, z2.trans (ho 2 k (by decide) (by decide) hk).symm, z3.trans (ho 3 k (by decide) (by decide) hk).symm⟩) (nK tO dO) nJ).1
  · have zb : ∀ i : Nat, z b i = fx_N s1 b i := hz b (q_neT tb tbo (by decide))
    have hr2 : zv_hr a2 b bq bc bf bcl bcf bch bct D R z := hr1.mv3 (fun j _ => hz a2 (q_neT T2 tbo (by decide)) j) (fun d hd i => by
      rcases hd with e | e | e | e | e <;> rw [e]
      · exact hz bc (q_neT C1 tbo (by decide)) i
      · exact hz bcl (q_neT C2 tbo (by decide)) i
      · exact hz bcf (q_neT C3 tbo (by decide)) i
      · exact hz bch (q_neT C4 tbo (by decide)) i
      · exact hz bct (q_neT C5 tbo (by decide)) i) (zb 512)
    obtain ⟨P1, P2, -⟩ := zn_base (N := N) (hap tN) haq hc1 hr2 hE hR rD.2 (fun k hk => by
      obtain ⟨z1, z2, z3⟩ := hrow k hk
      exact ⟨(zb k).trans z1, (zb (64 + k)).trans z2, (zb (128 + k)).trans z3⟩) (nK tN dN) nJ
    exact P2.as (fun i t p i0 i1 hp => Q1.eq P1 i0 i1 hp)
theorem zw_minutes {md0 : List (Nat × Nat)} (H : zw_H τ σ s1 s2 a1 a2) (S0 : q_S md0 τ σ s1) (hm0 : (zi_p1.all fun p => !(md0.contains p)) = true) (hm : (zw_m1.all fun p => !(md0.contains p)) = true) (hL : zi_L a1 a2 (fx_N σ)) (hQ : zw_Q σ a1 a2) (e1 : (r1, fx_N s1) = f_X11_minutes (fx_N σ) a1 x1.toInt) (e2 : (r2, fx_N s2) = f_X12_minutes (fx_N s1) a2 y1.toInt) (q1 : y1.toInt = x1.toInt) : r1 = r2 ∧ zw_L τ a1 a2 (fx_N s2) := by
  rw [q1] at e2
  obtain ⟨N, M, O, b, bm, bo, la, bk, bq, bf, D, hp, ⟨Tl, Tk⟩, ⟨e4, e8⟩, ⟨X, X2, Y⟩, ⟨hD, hR⟩, ⟨hP, h5, h0⟩, fin, ⟨r27, r28⟩, Tq, Tf⟩ := H.go
  have hrs := hQ.go h5 hP hp.2.2.2.1.1
  have vb : ∀ i : Nat, fx_N s1 b i = fx_N σ b i := fun i => zw_b hp.2.1.1 S0 hm (by decide) (by decide) i
  obtain ⟨A, B, ⟨Q1, Q2, Q3⟩, -, -⟩ := zw_base H.1 H.2.1.1 H.2.1.2 S0 hm0 hm hL hp hrs hD hR.1.1.1 hR.1.1.2 Tl Tk e4 e8 r27 r28 Tq Tf
  obtain ⟨w, z, m, k1, k2, f, R⟩ := zn_minutesW (x := x1.toInt) X Y hP h5 e4 h0 hR hD Q3 (fun k hk => ((hrs k hk).1.1).trans (vb k).symm) Q1 Q2
  obtain ⟨e, rfl, rfl⟩ := zw_fin e1 k1 e2 k2
  exact ⟨e, fin f R⟩
/-- a call of the class, one of the reference: what they leave of kept, trial and pointers -/
def zw_m4 : List (Nat × Nat) := [(9, 5), (9, 6), (9, 7), (6, 1), (6, 2), (6, 3), (6, 4), (6, 5), (6, 6), (6, 7), (6, 8), (6, 9), (6, 10), (6, 11), (6, 12), (6, 13), (6, 14), (10, 0), (10, 1), (10, 2), (10, 45), (100, 0), (102, 0)]
def zw_m5 : List (Nat × Nat) := [(9, 5), (9, 6), (9, 7), (9, 8), (6, 0), (6, 1), (6, 2), (6, 3), (6, 4), (6, 5), (6, 6), (6, 7), (6, 8), (6, 9), (6, 10), (6, 11), (6, 12), (6, 13), (6, 14), (6, 15), (6, 16), (6, 17), (119, 0), (120, 0), (121, 0), (122, 0), (123, 0), (210, 0), (124, 0), (125, 0), (126, 0), (127, 0), (128, 0), (10, 0), (10, 1), (10, 2)]
theorem zw_p4 : ∀ j : Nat, 1 ≤ j → j ≤ 14 → (6, j) ∈ zw_m4 := by
  intro j h1 h2
  rcases (show j = 1 ∨ j = 2 ∨ j = 3 ∨ j = 4 ∨ j = 5 ∨ j = 6 ∨ j = 7 ∨ j = 8 ∨ j = 9 ∨ j = 10 ∨ j = 11 ∨ j = 12 ∨ j = 13 ∨ j = 14 by omega) with rfl | rfl | rfl | rfl | rfl | rfl | rfl | rfl | rfl | rfl | rfl | rfl | rfl | rfl <;> decide
theorem zw_q5 : ∀ j : Nat, j ≤ 17 → (6, j) ∈ zw_m5 := by
  intro j h2
  rcases (show j = 0 ∨ j = 1 ∨ j = 2 ∨ j = 3 ∨ j = 4 ∨ j = 5 ∨ j = 6 ∨ j = 7 ∨ j = 8 ∨ j = 9 ∨ j = 10 ∨ j = 11 ∨ j = 12 ∨ j = 13 ∨ j = 14 ∨ j = 15 ∨ j = 16 ∨ j = 17 by omega) with rfl | rfl | rfl | rfl | rfl | rfl | rfl | rfl | rfl | rfl | rfl | rfl | rfl | rfl | rfl | rfl | rfl | rfl <;> decide
theorem zw_q5r : ∀ j : Nat, 4 ≤ j → j ≤ 14 → ((zw_k.getD j (0, 0)).1, 0) ∈ zw_m5 := by
  intro j h1 h2
  rcases (show j = 4 ∨ j = 5 ∨ j = 6 ∨ j = 7 ∨ j = 8 ∨ j = 9 ∨ j = 10 ∨ j = 11 ∨ j = 12 ∨ j = 13 ∨ j = 14 by omega) with rfl | rfl | rfl | rfl | rfl | rfl | rfl | rfl | rfl | rfl | rfl <;> decide
theorem zw_Rc5 (T : zw_T τ K) (S : q_S md τ s1 s2) (hm : (zw_m5.all fun p => !(md.contains p)) = true) {v w : fx_U} (h : zn_R K b D (fx_N s1) v) (hv : ∀ j : Nat, 192 ≤ j → j < 549 → w b j = v b j) : zn_R K b D (fx_N s2) w := h.mv (fun j hj => zw_f T S hm (zw_q5 j hj)) (fun j h4 hj i => zw_r T S hm h4 hj zw_q5r i) hv
/-- what is wanted at the end, from both roads as they stand then -/
theorem zw_end (T1 : τ a1 = some (9, 1)) (T2 : τ a2 = some (10, 1)) (S1 : q_S md1 τ σ s1) (hm1 : (zw_m4.all fun p => !(md1.contains p)) = true) (S2 : q_S md2 τ s1 s2) (hm2 : (zw_m5.all fun p => !(md2.contains p)) = true) (h : zw_P τ a1 a2 N M O b bm bo (fx_N σ)) (hk2 : fx_N s2 a1 8 = fx_N s2 a2 45) {D1 D2 : Int} (R1 : zn_R N b D1 (fx_N s1) (fx_N s2)) (R2 : fx_N s2 a1 8 = 0 ∨ zn_R M bm D2 (fx_N s1) (fx_N s2)) : zw_L τ a1 a2 (fx_N s2) := by
  obtain ⟨⟨⟨tN, tM, tO⟩, dd, ap⟩, ⟨tb, tbo, tbm⟩, ⟨h5, h6, h7⟩, ⟨g0, g1, g2⟩, ⟨pN, pM, pO⟩, -, -, -⟩ := h
  have o1 : ∀ j : Nat, (9, j) ∈ zw_m4 → (9, j) ∈ zw_m5 → fx_N s2 a1 j = fx_N σ a1 j := fun j j1 j2 => (zi_o S2 hm2 T1 (by decide) j2).trans (zi_o S1 hm1 T1 (by decide) j1)
  have o2 : ∀ j : Nat, (10, j) ∈ zw_m4 → (10, j) ∈ zw_m5 → fx_N s2 a2 j = fx_N σ a2 j := fun j j1 j2 => (zi_o S2 hm2 T2 (by decide) j2).trans (zi_o S1 hm1 T2 (by decide) j1)
  have pf : ∀ {K : Nat → Nat}, zw_T τ K → zn_P K (fx_N σ) → zn_P K (fx_N s2) := fun t p => zw_Pf t (zw_Pf t p S1 hm1 zw_p4) S2 hm2 (fun j _ hj => zw_q5 j (by omega))
  refine ⟨N, M, O, b, bm, bo, ⟨⟨tN, tM, tO⟩, dd, ap⟩, ⟨tb, tbo, tbm⟩, ⟨(o1 5 (by decide) (by decide)).trans h5, (o1 6 (by decide) (by decide)).trans h6, (o1 7 (by decide) (by decide)).trans h7⟩, ⟨(o2 0 (by decide) (by decide)).trans g0, (o2 1 (by decide) (by decide)).trans g1, (o2 2 (by decide) (by decide)).trans g2⟩, ⟨pf tN pN, pf tM pM, pf tO pO⟩, hk2, ?_, ?_⟩
  · have k := zw_Rc5 tN S2 hm2 R1 (fun j _ _ => rfl)
    rw [k.D]
    exact k
  · rcases R2 with e | e
    · exact Or.inl e
    · have k := zw_Rc5 tM S2 hm2 e (fun j _ _ => rfl)
      refine Or.inr ?_
      rw [k.D]
      exact k
theorem zw_keep (hI : q_I τ σ) (T1 : τ a1 = some (9, 1)) (T2 : τ a2 = some (10, 1)) (S1 : q_S md1 τ σ s1) (hm1 : (zw_m4.all fun p => !(md1.contains p)) = true) (S2 : q_S md2 τ s1 s2) (hm2 : (zw_m5.all fun p => !(md2.contains p)) = true) (h : zw_L τ a1 a2 (fx_N σ)) (k8 : s2 a1 8 = .int 1) (k45 : s2 a2 45 = .int 1) (e1 : (r1, fx_N s1) = f_X11_keep (fx_N σ) a1) (e2 : (r2, fx_N s2) = f_X12_keep (fx_N s1) a2) : r1 = r2 ∧ zw_L τ a1 a2 (fx_N s2) := by
  obtain ⟨N, M, O, b, bm, bo, h⟩ := h
  have hp := h
  obtain ⟨⟨⟨tN, tM, tO⟩, ⟨dN, dM, dO⟩, apM, apO, apMO⟩, ⟨tb, tbo, tbm⟩, ⟨h5, h6, h7⟩, ⟨g0, g1, g2⟩, ⟨pN, pM, pO⟩, hk, hR, hK⟩ := h
  have vb : ∀ i : Nat, fx_N s1 b i = fx_N σ b i := fun i => zw_b tb S1 hm1 (by decide) (by decide) i
  have hR1 : zn_R N b (fx_N σ (N 0) 0) (fx_N σ) (fx_N s1) := hR.mv (fun _ _ => rfl) (fun _ _ _ _ => rfl) (fun j _ _ => vb j)
  obtain ⟨x, d1, d2⟩ := (hI (N 0) 6 1 (tN 0 (by decide)) 0 (by decide)).int (lo := 8) (hi := 64) rfl
  have hD : fx_N σ (N 0) 0 ≤ 64 := by
    rw [zz_N d1]
    exact d2.2
  obtain ⟨w, z, m, k1, k2, R, Rk⟩ := zn_keepW (a1 := a1) (a2 := a2) ⟨dM, apM⟩ pN pM h5 h6 (fun j hj => ⟨Ne.symm (zw_ne tM T1 (zw_nx (by decide)) j hj), Ne.symm (zw_ne tN T1 (zw_nx (by decide)) j hj)⟩) ((zi_o S1 hm1 T2 (by decide) (by decide)).trans g0) ((zi_o S1 hm1 T2 (by decide) (by decide)).trans g2) ⟨q_neT tb tbm (by decide), q_neT T2 tb (by decide), q_neT T2 tbm (by decide)⟩ hR1 hD
  obtain ⟨e, rfl, rfl⟩ := zw_fin e1 k1 e2 k2
  exact ⟨e, zw_end T1 T2 S1 hm1 S2 hm2 hp ((zz_N k8).trans (zz_N k45).symm) R (Or.inr Rk)⟩
theorem zw_undo (hI : q_I τ σ) (T1 : τ a1 = some (9, 1)) (T2 : τ a2 = some (10, 1)) (S1 : q_S md1 τ σ s1) (hm1 : (zw_m1.all fun p => !(md1.contains p)) = true) (S2 : q_S md2 τ s1 s2) (hm2 : (zw_m2.all fun p => !(md2.contains p)) = true) (h : zw_L τ a1 a2 (fx_N σ)) (e1 : (r1, fx_N s1) = f_X11_undo (fx_N σ) a1) (e2 : (r2, fx_N s2) = f_X12_undo (fx_N s1) a2) : r1 = r2 ∧ zw_L τ a1 a2 (fx_N s2) := by
  obtain ⟨N, M, O, b, bm, bo, h⟩ := h
  have hp := h
  obtain ⟨⟨⟨tN, tM, tO⟩, ⟨dN, dM, dO⟩, apM, apO, apMO⟩, ⟨tb, tbo, tbm⟩, ⟨h5, h6, h7⟩, ⟨g0, g1, g2⟩, ⟨pN, pM, pO⟩, hk, hR, hK⟩ := h
  have vb : ∀ i : Nat, fx_N s1 b i = fx_N σ b i := fun i => zw_b tb S1 hm1 (by decide) (by decide) i
  have vm : ∀ i : Nat, fx_N s1 bm i = fx_N σ bm i := fun i => zw_b tbm S1 hm1 (by decide) (by decide) i
  have hm4 : (zw_m4.all fun p => !(md1.contains p)) = true := zw_sub (by decide) hm1
  have hm5 : (zw_m5.all fun p => !(md2.contains p)) = true := zw_sub (by decide) hm2
  have k45 : fx_N s1 a2 45 = fx_N σ a2 45 := zi_o S1 hm1 T2 (by decide) (by decide)
  have f8 : fx_N s2 a1 8 = fx_N σ a1 8 := (zi_o S2 hm2 T1 (by decide) (by decide)).trans (zi_o S1 hm1 T1 (by decide) (by decide))
  have f45 : fx_N s2 a2 45 = fx_N σ a2 45 := (zi_o S2 hm2 T2 (by decide) (by decide)).trans k45
  have b64 : ∀ {K : Nat → Nat}, zw_T τ K → fx_N σ (K 0) 0 ≤ 64 := fun t => by
    obtain ⟨x, d1, d2⟩ := (hI _ 6 1 (t 0 (by decide)) 0 (by decide)).int (lo := 8) (hi := 64) rfl
    rw [zz_N d1]
    exact d2.2
  have hR1 : zn_R N b (fx_N σ (N 0) 0) (fx_N σ) (fx_N s1) := hR.mv (fun _ _ => rfl) (fun _ _ _ _ => rfl) (fun j _ _ => vb j)
  have h0 : fx_N s1 a2 0 = (b : Int) := (zi_o S1 hm1 T2 (by decide) (by decide)).trans g0
  have h2 : fx_N s1 a2 2 = (bm : Int) := (zi_o S1 hm1 T2 (by decide) (by decide)).trans g2
  by_cases c : fx_N σ a1 8 = 0
  · obtain ⟨w, z, m, k1, k2, R, -⟩ := zn_undoW (D := fx_N σ (N 0) 0) ⟨dN, apM.sy⟩ pN pM h5 h6 rfl rfl (hk.trans k45.symm) h0 h2 (q_neT tbm tb (by decide)) (fun _ => hR1) (fun q => absurd c q) (b64 tN)
    obtain ⟨e, rfl, rfl⟩ := zw_fin e1 k1 e2 k2
    exact ⟨e, zw_end (D2 := 0) T1 T2 S1 hm4 S2 hm5 hp (by rw [f8, f45]; exact hk) R (Or.inl (f8.trans c))⟩
  · have hK1 : zn_R M bm (fx_N σ (M 0) 0) (fx_N σ) (fx_N s1) := (hK.resolve_left c).mv (fun _ _ => rfl) (fun _ _ _ _ => rfl) (fun j _ _ => vm j)
    obtain ⟨w, z, m, k1, k2, R, Rk⟩ := zn_undoW (D := fx_N σ (M 0) 0) ⟨dN, apM.sy⟩ pN pM h5 h6 rfl rfl (hk.trans k45.symm) h0 h2 (q_neT tbm tb (by decide)) (fun q => absurd q c) (fun _ => hK1) (b64 tM)
    obtain ⟨e, rfl, rfl⟩ := zw_fin e1 k1 e2 k2
    exact ⟨e, zw_end T1 T2 S1 hm4 S2 hm5 hp (by rw [f8, f45]; exact hk) R (Or.inr (Rk c))⟩
theorem zw_tried (H : zw_H τ σ s1 s2 a1 a2) {md0 md3 : List (Nat × Nat)} (S0 : q_S md0 τ σ s1) (hm0 : (zi_p1.all fun p => !(md0.contains p)) = true) (hm : (zw_m1.all fun p => !(md0.contains p)) = true) (S3 : q_S md3 τ s1 s2) (hm3 : (zw_m2.all fun p => !(md3.contains p)) = true) (hL : zi_L a1 a2 (fx_N σ)) (hQ : zw_Q σ a1 a2) (e1 : (r1, fx_N s1) = f_X11_tried (fx_N σ) a1 x1.toInt x2.toInt) (e2 : (r2, fx_N s2) = f_X12_tried (fx_N s1) a2 y1.toInt y2.toInt) (q1 : y1.toInt = x1.toInt) (q2 : y2.toInt = x2.toInt) : r1 = r2 ∧ zw_L τ a1 a2 (fx_N s2) := by
  rw [q1, q2] at e2
  obtain ⟨N, M, O, b, bm, bo, la, bk, bq, bf, D, hp, ⟨Tl, Tk⟩, ⟨e4, e8⟩, ⟨X, X2, Y⟩, ⟨hD, hR⟩, ⟨hP, h5, h0⟩, fin, ⟨r27, r28⟩, Tq, Tf⟩ := H.go
  have T1 := H.2.1.1
  have T2 := H.2.1.2
  have hrs := hQ.go h5 hP hp.2.2.2.1.1
  have vb : ∀ i : Nat, fx_N s1 b i = fx_N σ b i := fun i => zw_b hp.2.1.1 S0 hm (by decide) (by decide) i
  obtain ⟨A, B, ⟨Q1, Q2, Q3⟩, QO, QZ⟩ := zw_base H.1 T1 T2 S0 hm0 hm hL hp hrs hD hR.1.1.1 hR.1.1.2 Tl Tk e4 e8 r27 r28 Tq Tf
  obtain ⟨⟨⟨tN, tM, tO⟩, ⟨dN, dM, dO⟩, apM, apO, apMO⟩, ⟨tb, tbo, tbm⟩, ⟨-, h6, h7⟩, ⟨g0, g1, g2⟩, ⟨-, pM, pO⟩, hk, hR0, hK⟩ := id hp
  obtain ⟨w, z, m, k1, k2, f, R⟩ := zn_triedW (x1 := x1.toInt) (x2 := x2.toInt) (zw_X tO dO Tl Tk) Y ⟨dO, apO⟩ hP pO h5 h7 e4 (fun j hj => Ne.symm (zw_ne tO T1 (zw_nx (by decide)) j hj)) h0 ((zi_o S0 hm T2 (by decide) (by decide)).trans g1) ⟨⟨q_neT tb tbo (by decide), q_neT tbo tb (by decide)⟩, ⟨q_neT T2 tbo (by decide), q_neT tbo T2 (by decide)⟩, q_neT tbo Tq (by decide), q_neT tbo Tf (by decide)⟩ hR hD Q3 (fun k hk => ((hrs k hk).1.1).trans (vb k).symm) (fun w a b c d => QO w a b (c.trans hR.1.1.1) d) QZ
  obtain ⟨e, rfl, rfl⟩ := zw_fin e1 k1 e2 k2
  refine ⟨e, zw_end T1 T2 S0 (zw_sub (by decide) hm) S3 (zw_sub (by decide) hm3) hp ?_ (D1 := D) (D2 := fx_N σ (M 0) 0) ?_ ?_⟩
  · have a : fx_N s2 a1 8 = fx_N σ a1 8 := (zi_o S3 hm3 T1 (by decide) (by decide)).trans (zi_o S0 hm T1 (by decide) (by decide))
    have c : fx_N s2 a2 45 = fx_N σ a2 45 := (zi_o S3 hm3 T2 (by decide) (by decide)).trans (zi_o S0 hm T2 (by decide) (by decide))
    rw [a, c]
    exact hk
  · exact hR.mv (fun j _ => f (N 0) (X.2.1 0 (by decide)).1 (X.2.1 0 (by decide)).2 (fun k hk => apO 0 k (by decide) hk) j) (fun j _ hj i => f (N j) (X.2.1 j hj).1 (X.2.1 j hj).2 (fun k hk => apO j k hj hk) i) (fun j _ hj => R j hj)
  · have a : fx_N s2 a1 8 = fx_N σ a1 8 := (zi_o S3 hm3 T1 (by decide) (by decide)).trans (zi_o S0 hm T1 (by decide) (by decide))
    rw [a]
    rcases hK with q | q
    · exact Or.inl q
    · have nl := zw_X tM dM Tl Tk
      exact Or.inr (q.mv (fun j _ => f (M 0) (nl.2.1 0 (by decide)).1 (nl.2.1 0 (by decide)).2 (fun k hk => apMO 0 k (by decide) hk) j) (fun j _ hj i => f (M j) (nl.2.1 j hj).1 (nl.2.1 j hj).2 (fun k hk => apMO j k hj hk) i) (fun j _ _ => (zw_b tbm S3 hm3 (by decide) (by decide) j).trans (zw_b tbm S0 hm (by decide) (by decide) j)))
/-- over row: the reference writes its rows alone -/
theorem zw_row (T1 : τ a1 = some (9, 1)) (T2 : τ a2 = some (10, 1)) (S1 : q_S md1 τ σ s1) (hm1 : (zw_m3.all fun p => !(md1.contains p)) = true) (S2 : q_S md2 τ s1 s2) (hm2 : (zw_m2.all fun p => !(md2.contains p)) = true) (h : zw_L τ a1 a2 (fx_N σ)) {bn : Nat} (hbn : s1 a2 0 = .ref bn) (kb : ∀ j : Nat, 192 ≤ j → fx_N s2 bn j = fx_N s1 bn j) : zw_L τ a1 a2 (fx_N s2) := by
  have h1 := zw_L.C T1 T2 S1 hm1 h
  obtain ⟨N, M, O, b, bm, bo, h⟩ := h1
  have hp := h
  obtain ⟨⟨⟨tN, tM, tO⟩, ⟨dN, dM, dO⟩, apM, apO, apMO⟩, ⟨tb, tbo, tbm⟩, ⟨h5, h6, h7⟩, ⟨g0, g1, g2⟩, ⟨pN, pM, pO⟩, hk, hR, hK⟩ := h
  have eb : bn = b := zw_cast (zz_NR hbn) g0
  subst eb
  have z0 : q_S ([] : List (Nat × Nat)) τ s1 s1 := ⟨S1.1, fun _ _ _ _ _ _ => rfl⟩
  refine zw_end T1 T2 z0 (by decide) S2 (zw_sub (by decide) hm2) hp ?_ (D1 := fx_N s1 (N 0) 0) (D2 := fx_N s1 (M 0) 0) ?_ ?_
  · rw [zi_o S2 hm2 T1 (by decide) (by decide), zi_o S2 hm2 T2 (by decide) (by decide)]
    exact hk
  · exact hR.mv (fun _ _ => rfl) (fun _ _ _ _ => rfl) (fun j j1 _ => kb j j1)
  · rw [zi_o S2 hm2 T1 (by decide) (by decide)]
    rcases hK with q | q
    · exact Or.inl q
    · exact Or.inr (q.mv (fun _ _ => rfl) (fun _ _ _ _ => rfl) (fun j _ _ => zw_b tbm S2 hm2 (by decide) (by decide) j))
end NightLoop
