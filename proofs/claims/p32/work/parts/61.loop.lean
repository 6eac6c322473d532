/-! the law goes through its script -/
def md_L_law : List (Nat × Nat) := [(0, 1), (0, 2), (0, 3), (2, 0), (3, 0), (3, 1), (3, 2), (3, 9), (3, 10), (3, 11), (3, 12), (3, 13), (3, 14), (3, 15), (4, 0), (4, 1), (4, 2), (4, 3), (4, 4), (5, 3), (5, 4), (5, 5), (5, 6), (6, 0), (6, 15), (6, 16), (6, 17), (7, 1), (7, 2), (7, 3), (7, 4), (7, 5), (9, 1), (9, 4), (9, 8), (10, 4), (10, 5), (10, 6), (10, 7), (10, 8), (10, 9), (10, 10), (10, 11), (10, 12), (10, 13), (10, 14), (10, 29), (10, 39), (10, 40), (10, 41), (10, 42), (10, 45), (100, 0), (101, 0), (102, 0), (110, 0), (111, 0), (112, 0), (113, 0), (114, 0), (115, 0), (116, 0), (117, 0), (118, 0), (119, 0), (120, 0), (121, 0), (122, 0), (123, 0), (124, 0), (125, 0), (126, 0), (127, 0), (128, 0), (129, 0), (130, 0), (131, 0), (132, 0), (133, 0), (134, 0), (135, 0), (136, 0), (137, 0), (138, 0), (139, 0), (140, 0), (141, 0), (150, 0), (151, 0), (152, 0), (153, 0), (154, 0), (155, 0), (156, 0), (157, 0), (158, 0), (159, 0), (160, 0), (161, 0), (162, 0), (163, 0), (164, 0), (165, 0), (166, 0), (167, 0), (168, 0), (169, 0), (170, 0), (171, 0), (172, 0), (173, 0), (174, 0), (210, 0), (211, 0), (310, 0)]
def q_xs (X : q_X) (b L : Nat) (xs : Nat → Int32) : Prop := match X with
  | (_, _, _, _, s, _, _, _, _, _, _, _, _) => va_X b L xs s s.heap
def q_bl (X : q_X) (b : Nat) : Prop := match X with
  | (_, _, _, _, s, _, _, _, _, _, _, _, _) => b < s.heap.size
def q_ba (X : q_X) (b : Nat) : Prop := match X with
  | (_, _, _, _, _, _, _, _, _, _, _, A, _) => ¬ A b
section Scr
variable {X : q_X} {cc : ByteArray} {own : String} {nL : Nat} {ret : Option FieldType} {fr lo mc ms cells slots pc b L : Nat} {xs : Nat → Int32} {τ : q_T} {σ : q_V} {lv : List (Nat × Value)} {st : List Value} {i : Int32}
theorem q_sld (hG : q_G X cc own nL ret fr lo mc ms) (hX : q_xs X b L xs) (hbl : q_bl X b) (hbA : q_ba X b) (hi : 0 ≤ i.toInt ∧ i.toInt < (L : Int)) (hd : decode cc pc = .ok (.iaload, 1)) (kk : ∀ z : Int32, z = xs i.toInt.toNat → q_O X cells slots τ σ (pc + 1) lv (.int z :: st)) : q_O X cells slots τ σ pc lv (.int i :: .ref b :: st) := by
  obtain ⟨p, l, e, R, s, m, args, below, meth, c, Q, A, D⟩ := X
  obtain ⟨hx, hb, hre, hml, hown, hts, hK, hlk, hA, hR⟩ := hG
  intro H locs ls h1 h2 h3
  exact va_sld hx hb hX hbl hbA h2 (q_inx hi) hd (kk _ rfl H locs ls h1 h2 h3)
theorem q_slen (hG : q_G X cc own nL ret fr lo mc ms) (hX : q_xs X b L xs) (hbl : q_bl X b) (hbA : q_ba X b) (hL : L ≤ 3072) (hd : decode cc pc = .ok (.arraylength, 1)) (kk : ∀ z : Int32, z.toInt = (L : Int) → q_r z 0 3072 → q_O X cells slots τ σ (pc + 1) lv (.int z :: st)) : q_O X cells slots τ σ pc lv (.ref b :: st) := by
  obtain ⟨p, l, e, R, s, m, args, below, meth, c, Q, A, D⟩ := X
  obtain ⟨hx, hb, hre, hml, hown, hts, hK, hlk, hA, hR⟩ := hG
  intro H locs ls h1 h2 h3
  have hz : (Int32.ofNat L).toInt = (L : Int) := Int32.toInt_ofNat_of_lt (by omega)
  exact va_slen hx hb hX hbl hbA h2 hd (kk _ hz ⟨by omega, by omega⟩ H locs ls h1 h2 h3)
end Scr
theorem q_kp.keep {md : List (Nat × Nat)} {τ : q_T} {σ σ1 : q_V} {a : Nat} (hI : q_I τ σ) (hF : q_F md τ σ σ1) (hT : τ a = some (10, 1)) (hm : [(10, 45), (10, 2), (102, 0)].all (fun q => !md.contains q) = true) (h : q_kp τ σ a) : q_kp τ σ1 a := by
  have hn : ∀ q, q ∈ [(10, 45), (10, 2), (102, 0)] → md.contains q = false := fun q hq => by
    have := List.all_eq_true.mp hm q hq
    simpa using this
  intro x b h45 hne h2 j hj
  rw [hF a 10 1 45 hT (hn _ (by decide))] at h45
  rw [hF a 10 1 2 hT (hn _ (by decide))] at h2
  have tb : τ b = some (102, 549) := by
    obtain ⟨b2, e1, e2⟩ := (hI a 10 1 hT 2 (by decide)).ref (k := 102) (n := 549) rfl
    rw [h2] at e1; cases e1; exact e2
  rw [hF.arr tb (by decide) (hn _ (by decide))]
  exact h x b h45 hne h2 j hj
theorem zz_ref {τ : q_T} {σ : q_V} {a k j b k2 n2 : Nat} (hI : q_I τ σ) (hT : τ a = some (k, 1)) (hj : j < q_lim k 1) (hb : σ a j = .ref b) (ht : q_f k j = (1, (k2 : Int), (n2 : Int))) : τ b = some (k2, n2) := by
  obtain ⟨b2, e1, e2⟩ := (hI a k 1 hT j hj).ref ht
  rw [hb] at e1
  cases e1
  exact e2
theorem zz_rng {τ : q_T} {t : Nat × Int × Int} {v : Value} {x : Int32} {lo hi : Int} (h : q_v τ t v) (ht : t = (0, lo, hi)) (hx : v = .int x) : q_r x lo hi := by
  obtain ⟨y, e1, e2⟩ := h.int ht
  rw [hx] at e1
  cases e1
  exact e2
theorem zz_eqI {v : Value} {x y : Int32} (h1 : v = .int x) (h2 : v = .int y) : x.toInt = y.toInt := by
  rw [h1] at h2
  cases h2
  rfl
theorem zz_N {σ : q_V} {a j : Nat} {x : Int32} (h : σ a j = .int x) : fx_N σ a j = x.toInt := by
  unfold fx_N
  rw [h]
  rfl
theorem zz_NR {σ : q_V} {a j b : Nat} (h : σ a j = .ref b) : fx_N σ a j = (b : Int) := by
  unfold fx_N
  rw [h]
  rfl
theorem zz_Na {md : List (Nat × Nat)} {τ : q_T} {σ σ1 : q_V} {b k n j : Nat} (hF : q_F md τ σ σ1) (hT : τ b = some (k, n)) (hk : 100 ≤ k) (hm : md.contains (k, 0) = false) : fx_N σ1 b j = fx_N σ b j := congrArg fx_num (hF.arr hT hk hm)
theorem zz_tc.keep {md : List (Nat × Nat)} {τ : q_T} {σ σ1 : q_V} {ta tb : Nat} {n : Int} (h : zz_tc (fx_N σ) (fx_N σ) ta tb n) (hF : q_F md τ σ σ1) (Ta : τ ta = some (110, 260)) (Tb : τ tb = some (310, 260)) (m1 : md.contains (110, 0) = false) (m2 : md.contains (310, 0) = false) : zz_tc (fx_N σ1) (fx_N σ1) ta tb n := fun i hi => by
  rw [zz_Na hF Ta (by decide) m1, zz_Na hF Tb (by decide) m2]
  exact h i hi
theorem zz_tc.less {u v : fx_U} {ta tb : Nat} {n m : Int} (h : zz_tc u v ta tb n) (hm : m ≤ n) : zz_tc u v ta tb m := fun i hi => h i (by omega)
theorem zz_tp.of {md : List (Nat × Nat)} {τ : q_T} {σ s1 : q_V} {a1 a2 ta tb : Nat} {t t2 : Int32} (hc : zz_tc (fx_N σ) (fx_N σ) ta tb t2.toInt) (h1 : σ a1 1 = .int t) (h2 : s1 a2 4 = .int t2) (ht : t.toInt = t2.toInt) (ha : σ a1 0 = .ref ta) (hb : s1 a2 3 = .ref tb) (Tb : τ tb = some (310, 260)) (F1 : q_F md τ σ s1) (m1 : md.contains (310, 0) = false) : zz_tp (fx_N σ) (fx_N s1) a1 a2 ta tb t2.toInt := ⟨⟨(zz_N h1).trans ht, zz_N h2⟩, ⟨zz_NR ha, zz_NR hb⟩, fun i hi => by
  rw [zz_Na F1 Tb (by decide) m1]
  exact hc i hi⟩
theorem zz_feed2 {md2 : List (Nat × Nat)} {τ : q_T} {σ s1 s2 : q_V} {a1 a2 ta tb : Nat} {t z : Int32} {r1 r2 : Int} {x1 x2 x3 x4 x5 y1 y2 y3 y4 y5 : Int32} (tp : zz_tp (fx_N σ) (fx_N s1) a1 a2 ta tb t.toInt) (hz : s2 a2 4 = .int z) (Ta : τ ta = some (110, 260)) (Tb : τ tb = some (310, 260)) (T1 : τ a1 = some (9, 1)) (T2 : τ a2 = some (10, 1)) (F2 : q_F md2 τ s1 s2) (m2 : md2.contains (110, 0) = false) (e1 : (r1, fx_N s1) = f_X11_feed (fx_N σ) a1 x1.toInt x2.toInt x3.toInt x4.toInt x5.toInt) (e2 : (r2, fx_N s2) = f_X12_feed (fx_N s1) a2 y1.toInt y2.toInt y3.toInt y4.toInt y5.toInt) (q1 : y1.toInt = x1.toInt) (q2 : y2.toInt = x2.toInt) (q3 : y3.toInt = x3.toInt) (q4 : y4.toInt = x4.toInt) (q5 : y5.toInt = x5.toInt) (h0 : 0 ≤ t.toInt) : zz_tc (fx_N s2) (fx_N s2) ta tb z.toInt := by
  rw [q1, q2, q3, q4, q5] at e2
  obtain ⟨t3, k⟩ := tp.feed (zz_toInt x1) (zz_toInt x2) (zz_toInt x3) (zz_toInt x4) (zz_toInt x5) h0 (q_neT Ta T1 (by decide)) (q_neT Tb T2 (by decide))
  rw [← e1, ← e2] at k
  obtain ⟨⟨-, k2⟩, -, k5⟩ := k
  have e3 : t3 = z.toInt := k2.symm.trans (zz_N hz)
  subst e3
  intro i hi
  rw [zz_Na F2 Ta (by decide) m2]
  exact k5 i hi
theorem zz_row2 {τ : q_T} {σ s1 s2 : q_V} {a1 a2 ta tb br bn w0 w1 w2 : Nat} {t d1 d2 : Int32} {r1 r2 : Int} {x1 x2 y1 y2 : Int32} (hI : q_I τ σ) (hI1 : q_I τ s1) (tp : zz_tp (fx_N σ) (fx_N s1) a1 a2 ta tb t.toInt) (ht : q_r t 0 260) (Ta : τ ta = some (110, 260)) (Tb : τ tb = some (310, 260)) (T1 : τ a1 = some (9, 1)) (T2 : τ a2 = some (10, 1)) (Tn : τ bn = some (100, 549)) (hbr : σ a1 5 = .ref br) (hdc : σ br 0 = .int d1) (hbn : s1 a2 0 = .ref bn) (hdr : s1 bn (512 : Int32).toInt.toNat = .int d2) (hdd : d1.toInt = d2.toInt) (rd : q_r d1 8 64) (e1 : (r1, fx_N s1) = f_X11_row (fx_N σ) a1 x1.toInt x2.toInt) (e2 : (r2, fx_N s2) = f_X12_row (fx_N s1) a2 y1.toInt y2.toInt) (q1 : y1.toInt = x1.toInt) (q2 : y2.toInt = x2.toInt) (he : σ br 1 = .ref w0 ∧ σ br 2 = .ref w1 ∧ σ br 3 = .ref w2) : ∃ q V1 : Nat, τ q = some (7, 1) ∧ τ V1 = some (111, 64) ∧ zz_RR a1 q V1 bn (fx_N σ) (fx_N s1) d1.toInt x1.toInt (zz_c3 x1.toInt w0 w1 w2) (r1, fx_N s1) (r2, fx_N s2) := by
  rw [q1, q2] at e2
  have Tbr : τ br = some (6, 1) := zz_ref hI T1 (j := 5) (by decide) hbr rfl
  have E0 : τ w0 = some (118, 64) := zz_ref hI Tbr (j := 1) (by decide) he.1 rfl
  have E1 : τ w1 = some (118, 64) := zz_ref hI Tbr (j := 2) (by decide) he.2.1 rfl
  have E2 : τ w2 = some (118, 64) := zz_ref hI Tbr (j := 3) (by decide) he.2.2 rfl
  obtain ⟨q, f0, Tq⟩ := (hI a1 9 1 T1 2 (by decide)).ref (k := 7) (n := 1) rfl
  obtain ⟨V1, f1, U1⟩ := (hI q 7 1 Tq 0 (by decide)).ref (k := 111) (n := 64) rfl
  obtain ⟨NV, f2, U2⟩ := (hI1 a2 10 1 T2 26 (by decide)).ref (k := 161) (n := 64) rfl
  have hv : ∀ i, i < 260 → -128 ≤ fx_N s1 tb i ∧ fx_N s1 tb i ≤ 127 := fun i hi => by
    obtain ⟨x, g1, g2⟩ := (hI1 tb 310 260 Tb i (by rw [q_limA (by decide)]; exact hi)).int (ai_310.2.2 i)
    rw [zz_N g1]
    exact g2
  have k := zz_rowR (x1 := x1.toInt) (x2 := x2.toInt) (d := d1.toInt) tp hv ht (zz_NR f0) (zz_NR f1) (zz_NR hbr) (zz_N hdc) ((zz_N (show s1 bn 512 = .int d2 from hdr)).trans hdd.symm) rd (zz_NR hbn) (zz_NR f2) ⟨zz_NR he.1, zz_NR he.2.1, zz_NR he.2.2⟩
    (q_neT Ta Tq (by decide)) (q_neT U1 Tq (by decide)) (q_neT Ta U1 (by decide)) (q_neT Tb T2 (by decide)) (q_neT Tn T2 (by decide)) (q_neT U2 T2 (by decide)) (q_neT Tb U2 (by decide)) (q_neT Tn U2 (by decide))
    ⟨q_neT Tbr T1 (by decide), q_neT Tbr Tq (by decide), q_neT Tbr U1 (by decide)⟩ (q_neT U1 T1 (by decide)) (q_neT Tq T1 (by decide)) ⟨q_neT E0 T1 (by decide), q_neT E0 Tq (by decide), q_neT E0 U1 (by decide)⟩ ⟨q_neT E1 T1 (by decide), q_neT E1 Tq (by decide), q_neT E1 U1 (by decide)⟩ ⟨q_neT E2 T1 (by decide), q_neT E2 Tq (by decide), q_neT E2 U1 (by decide)⟩
  rw [← e1, ← e2] at k
  exact ⟨q, V1, Tq, U1, k⟩
theorem zz_row3 {τ : q_T} {σ s1 s2 : q_V} {a1 a2 ta tb br bn : Nat} {t d1 d2 : Int32} {r1 r2 : Int} {x1 x2 y1 y2 : Int32} (hI : q_I τ σ) (hI1 : q_I τ s1) (tp : zz_tp (fx_N σ) (fx_N s1) a1 a2 ta tb t.toInt) (ht : q_r t 0 260) (Ta : τ ta = some (110, 260)) (Tb : τ tb = some (310, 260)) (T1 : τ a1 = some (9, 1)) (T2 : τ a2 = some (10, 1)) (Tn : τ bn = some (100, 549)) (hbr : σ a1 5 = .ref br) (hdc : σ br 0 = .int d1) (hbn : s1 a2 0 = .ref bn) (hdr : s1 bn (512 : Int32).toInt.toNat = .int d2) (hdd : d1.toInt = d2.toInt) (rd : q_r d1 8 64) (e1 : (r1, fx_N s1) = f_X11_row (fx_N σ) a1 x1.toInt x2.toInt) (e2 : (r2, fx_N s2) = f_X12_row (fx_N s1) a2 y1.toInt y2.toInt) (q1 : y1.toInt = x1.toInt) (q2 : y2.toInt = x2.toInt) : r1 = r2 := by
  have Tbr : τ br = some (6, 1) := zz_ref hI T1 (j := 5) (by decide) hbr rfl
  obtain ⟨w0, g0, -⟩ := (hI br 6 1 Tbr 1 (by decide)).ref (k := 118) (n := 64) rfl
  obtain ⟨w1, g1, -⟩ := (hI br 6 1 Tbr 2 (by decide)).ref (k := 118) (n := 64) rfl
  obtain ⟨w2, g2, -⟩ := (hI br 6 1 Tbr 3 (by decide)).ref (k := 118) (n := 64) rfl
  obtain ⟨q, V1, -, -, k⟩ := zz_row2 hI hI1 tp ht Ta Tb T1 T2 Tn hbr hdc hbn hdr hdd rd e1 e2 q1 q2 ⟨g0, g1, g2⟩
  exact k.1
/-- the rows of both are alike, and their numbers in their bounds -/
def zz_rs (u : fx_U) (c0 c1 c2 b : Nat) : Prop := ∀ j : Nat, j < 64 → (u c0 j = u b j ∧ u c1 j = u b (64 + j) ∧ u c2 j = u b (128 + j)) ∧ (-99 ≤ u c0 j ∧ u c0 j ≤ 99) ∧ (0 ≤ u c1 j ∧ u c1 j ≤ 99) ∧ (0 ≤ u c2 j ∧ u c2 j ≤ 99)
theorem zz_Nf {σ σ1 : q_V} {a a1 j j1 : Nat} (h : σ1 a1 j1 = σ a j) : fx_N σ1 a1 j1 = fx_N σ a j := congrArg fx_num h
theorem zz_N0 {σ : q_V} {a j : Nat} (h : σ a j = .int 0) : fx_N σ a j = 0 := by
  rw [zz_N h]
  exact tl_0
/-- both from what is known to be 0 -/
theorem zz_rs.z {σ : q_V} {c0 c1 c2 b : Nat} (h : zz_rz σ c0 c1 c2 64) (g : zz_qz σ b 64) : zz_rs (fx_N σ) c0 c1 c2 b := fun j hj => by
  obtain ⟨h0, h1, h2⟩ := h j (by omega)
  obtain ⟨g0, g1, g2⟩ := g j (by omega)
  rw [zz_N0 h0, zz_N0 h1, zz_N0 h2, zz_N0 g0, zz_N0 g1, zz_N0 g2]
  exact ⟨⟨rfl, rfl, rfl⟩, by decide, by decide, by decide⟩
/-- from what others held -/
theorem zz_rs.mv {σ σ1 : q_V} {c0 c1 c2 b d0 d1 d2 e : Nat} (h : zz_rs (fx_N σ) c0 c1 c2 b) (hc : ∀ j : Nat, j < 64 → σ1 d0 j = σ c0 j ∧ σ1 d1 j = σ c1 j ∧ σ1 d2 j = σ c2 j) (hb : ∀ j : Nat, j < 192 → σ1 e j = σ b j) : zz_rs (fx_N σ1) d0 d1 d2 e := fun j hj => by
  obtain ⟨g0, g1, g2⟩ := hc j hj
  rw [zz_Nf g0, zz_Nf g1, zz_Nf g2, zz_Nf (hb j (by omega)), zz_Nf (hb (64 + j) (by omega)), zz_Nf (hb (128 + j) (by omega))]
  exact h j hj
theorem zz_rs.C {τ : q_T} {σ σ1 : q_V} {c0 c1 c2 b : Nat} {md : List (Nat × Nat)} (h : zz_rs (fx_N σ) c0 c1 c2 b) (S : q_S md τ σ σ1) (hm : md.contains (118, 0) = false) (T0 : τ c0 = some (118, 64)) (T1 : τ c1 = some (118, 64)) (T2 : τ c2 = some (118, 64)) (hb : ∀ j : Nat, j < 192 → σ1 b j = σ b j) : zz_rs (fx_N σ1) c0 c1 c2 b := h.mv (fun j _ => ⟨congrFun (zz_sC S hm T0) j, congrFun (zz_sC S hm T1) j, congrFun (zz_sC S hm T2) j⟩) hb
/-- over a call that writes the rows of another road -/
theorem zz_rs.O {τ : q_T} {σ σ1 : q_V} {c0 c1 c2 d0 d1 d2 b : Nat} (h : zz_rs (fx_N σ) c0 c1 c2 b) (x : zz_rx τ σ σ1 d0 d1 d2) (T0 : τ c0 = some (118, 64)) (T1 : τ c1 = some (118, 64)) (T2 : τ c2 = some (118, 64)) (n : (c0 ≠ d0 ∧ c0 ≠ d1 ∧ c0 ≠ d2) ∧ (c1 ≠ d0 ∧ c1 ≠ d1 ∧ c1 ≠ d2) ∧ (c2 ≠ d0 ∧ c2 ≠ d1 ∧ c2 ≠ d2)) (hb : ∀ j : Nat, j < 192 → σ1 b j = σ b j) : zz_rs (fx_N σ1) c0 c1 c2 b := h.mv (fun j _ => ⟨congrFun (x c0 T0 n.1.1 n.1.2.1 n.1.2.2) j, congrFun (x c1 T1 n.2.1.1 n.2.1.2.1 n.2.1.2.2) j, congrFun (x c2 T2 n.2.2.1 n.2.2.2.1 n.2.2.2.2) j⟩) hb
theorem zz_a6.n1 {c0 c1 c2 d0 d1 d2 : Nat} (h : zz_a6 c0 c1 c2 d0 d1 d2) : (d0 ≠ c0 ∧ d0 ≠ c1 ∧ d0 ≠ c2) ∧ (d1 ≠ c0 ∧ d1 ≠ c1 ∧ d1 ≠ c2) ∧ (d2 ≠ c0 ∧ d2 ≠ c1 ∧ d2 ≠ c2) := h.2.2
theorem zz_a6.n2 {c0 c1 c2 d0 d1 d2 : Nat} (h : zz_a6 c0 c1 c2 d0 d1 d2) : (c0 ≠ d0 ∧ c0 ≠ d1 ∧ c0 ≠ d2) ∧ (c1 ≠ d0 ∧ c1 ≠ d1 ∧ c1 ≠ d2) ∧ (c2 ≠ d0 ∧ c2 ≠ d1 ∧ c2 ≠ d2) := by
  obtain ⟨-, -, ⟨a1, a2, a3⟩, ⟨b1, b2, b3⟩, e1, e2, e3⟩ := h
  exact ⟨⟨Ne.symm a1, Ne.symm b1, Ne.symm e1⟩, ⟨Ne.symm a2, Ne.symm b2, Ne.symm e2⟩, ⟨Ne.symm a3, Ne.symm b3, Ne.symm e3⟩⟩
theorem zz_a6.sw {c0 c1 c2 d0 d1 d2 : Nat} (h : zz_a6 c0 c1 c2 d0 d1 d2) : zz_a6 d0 d1 d2 c0 c1 c2 := ⟨h.2.1, h.1, h.n2⟩
theorem zz_rxof {τ : q_T} {σ σ1 : q_V} {c0 c1 c2 : Nat} {r : Int} {B : Prop} (h : (r = 1 → zz_rx τ σ σ1 c0 c1 c2 ∧ B) ∧ (r = 0 → ∀ c : Nat, τ c = some (118, 64) → σ1 c = σ c)) (hr : r = 0 ∨ r = 1) : zz_rx τ σ σ1 c0 c1 c2 := by
  rcases hr with q | q
  · exact zz_rx.rf.S (h.2 q)
  · exact (h.1 q).1
theorem zz_road2 {τ : q_T} {σ s1 s2 : q_V} {c0 c1 c2 b : Nat} {r1 r2 : Int} {md1 md2 : List (Nat × Nat)} (h : zz_rs (fx_N σ) c0 c1 c2 b) (p1 : (r1 = 1 → zz_rx τ σ s1 c0 c1 c2 ∧ zz_rz s1 c0 c1 c2 64) ∧ (r1 = 0 → ∀ c : Nat, τ c = some (118, 64) → s1 c = σ c)) (p2 : (r2 = 1 → zz_qz s2 b 64) ∧ (r2 = 0 → fx_kr s1 s2 b)) (S1 : q_S md1 τ σ s1) (S2 : q_S md2 τ s1 s2) (m1 : md1.contains (100, 0) = false) (m2 : md2.contains (118, 0) = false) (T0 : τ c0 = some (118, 64)) (T1 : τ c1 = some (118, 64)) (T2 : τ c2 = some (118, 64)) (Tb : τ b = some (100, 549)) (hr : r1 = r2 ∧ (r1 = 0 ∨ r1 = 1)) : zz_rs (fx_N s2) c0 c1 c2 b := by
  obtain ⟨rfl, q | q⟩ := hr
  · refine h.mv (fun j _ => ?_) (fun j hj => ((p2.2 q) j (Or.inl hj)).trans (S1.2.arr Tb (by decide) m1))
    rw [zz_sC S2 m2 T0, zz_sC S2 m2 T1, zz_sC S2 m2 T2, p1.2 q c0 T0, p1.2 q c1 T1, p1.2 q c2 T2]
    exact ⟨rfl, rfl, rfl⟩
  · exact zz_rs.z ((p1.1 q).2.S (zz_sC S2 m2 T0) (zz_sC S2 m2 T1) (zz_sC S2 m2 T2)) (p2.1 q)
theorem zz_undo2 {τ : q_T} {σ s1 s2 : q_V} {c0 c1 c2 d0 d1 d2 b e : Nat} {r1 r2 k : Int} {md1 md2 : List (Nat × Nat)} (h : zz_rs (fx_N σ) c0 c1 c2 b) (g : k = 0 ∨ zz_rs (fx_N σ) d0 d1 d2 e) (p1 : (r1 = 1 → zz_rx τ σ s1 c0 c1 c2 ∧ (zz_a6 c0 c1 c2 d0 d1 d2 → zz_rc σ s1 c0 c1 c2 d0 d1 d2)) ∧ (r1 = 0 → ∀ c : Nat, τ c = some (118, 64) → s1 c = σ c)) (p2 : (r2 = 1 → ∀ j : Nat, j < 192 → s2 b j = s1 e j) ∧ (r2 = 0 → fx_kr s1 s2 b)) (ap : zz_a6 c0 c1 c2 d0 d1 d2) (S1 : q_S md1 τ σ s1) (S2 : q_S md2 τ s1 s2) (m1 : md1.contains (100, 0) = false) (m3 : md1.contains (102, 0) = false) (m2 : md2.contains (118, 0) = false) (T0 : τ c0 = some (118, 64)) (T1 : τ c1 = some (118, 64)) (T2 : τ c2 = some (118, 64)) (Tb : τ b = some (100, 549)) (Te : τ e = some (102, 549)) (hr : r1 = r2 ∧ (r1 = 0 ∨ r1 = 1)) (hk : r1 = 1 → k ≠ 0) : zz_rs (fx_N s2) c0 c1 c2 b := by
  obtain ⟨rfl, q | q⟩ := hr
  · refine h.mv (fun j _ => ?_) (fun j hj => ((p2.2 q) j (Or.inl hj)).trans (S1.2.arr Tb (by decide) m1))
    rw [zz_sC S2 m2 T0, zz_sC S2 m2 T1, zz_sC S2 m2 T2, p1.2 q c0 T0, p1.2 q c1 T1, p1.2 q c2 T2]
    exact ⟨rfl, rfl, rfl⟩
  · rcases g with g | g
    · exact absurd g (hk q)
    · refine g.mv (fun j hj => ?_) (fun j hj => ((p2.1 q) j hj).trans (S1.2.arr Te (by decide) m3))
      rw [zz_sC S2 m2 T0, zz_sC S2 m2 T1, zz_sC S2 m2 T2]
      exact (p1.1 q).2 ap j hj
theorem zz_keep2 {τ : q_T} {σ s1 s2 : q_V} {c0 c1 c2 d0 d1 d2 b e : Nat} {md1 md2 : List (Nat × Nat)} (h : zz_rs (fx_N σ) c0 c1 c2 b) (p1 : zz_rx τ σ s1 d0 d1 d2 ∧ (zz_a6 d0 d1 d2 c0 c1 c2 → zz_rc σ s1 d0 d1 d2 c0 c1 c2)) (p2 : ∀ j : Nat, j < 192 → s2 e j = s1 b j) (ap : zz_a6 c0 c1 c2 d0 d1 d2) (S1 : q_S md1 τ σ s1) (S2 : q_S md2 τ s1 s2) (m1 : md1.contains (100, 0) = false) (m2 : md2.contains (118, 0) = false) (T0 : τ d0 = some (118, 64)) (T1 : τ d1 = some (118, 64)) (T2 : τ d2 = some (118, 64)) (Tb : τ b = some (100, 549)) : zz_rs (fx_N s2) d0 d1 d2 e := by
  refine h.mv (fun j hj => ?_) (fun j hj => (p2 j hj).trans (S1.2.arr Tb (by decide) m1))
  rw [zz_sC S2 m2 T0, zz_sC S2 m2 T1, zz_sC S2 m2 T2]
  exact p1.2 ap.sw j hj
/-- behind row -/
theorem zz_rowA {τ : q_T} {σ s1 s2 : q_V} {a1 c0 c1 c2 b : Nat} {d kd r1 r2 : Int} {md1 md2 : List (Nat × Nat)} (h : zz_rs (fx_N σ) c0 c1 c2 b) (K : ∃ q V1 : Nat, τ q = some (7, 1) ∧ τ V1 = some (111, 64) ∧ zz_RR a1 q V1 b (fx_N σ) (fx_N s1) d kd (zz_c3 kd c0 c1 c2) (r1, fx_N s1) (r2, fx_N s2)) (A1 : τ a1 = some (9, 1)) (hd : 8 ≤ d ∧ d ≤ 64) (ap : c0 ≠ c1 ∧ c0 ≠ c2 ∧ c1 ≠ c2) (S1 : q_S md1 τ σ s1) (S2 : q_S md2 τ s1 s2) (m1 : md1.contains (100, 0) = false) (m2 : md2.contains (118, 0) = false) (T0 : τ c0 = some (118, 64)) (T1 : τ c1 = some (118, 64)) (T2 : τ c2 = some (118, 64)) (Tb : τ b = some (100, 549)) : zz_rs (fx_N s2) c0 c1 c2 b := by
  obtain ⟨q, V1, Tq, TV, -, f, g⟩ := K
  have n3 : ∀ c, τ c = some (118, 64) → c ≠ a1 ∧ c ≠ q ∧ c ≠ V1 := fun c hc => ⟨zz_neT hc A1 (by decide), zz_neT hc Tq (by decide), zz_neT hc TV (by decide)⟩
  have b1 : ∀ i, fx_N s1 b i = fx_N σ b i := fun i => zz_Nf (S1.2.arr Tb (by decide) m1)
  have k0 : ∀ i, fx_N s2 c0 i = fx_N s1 c0 i := fun i => zz_Nf (congrFun (zz_sC S2 m2 T0) i)
  have k1 : ∀ i, fx_N s2 c1 i = fx_N s1 c1 i := fun i => zz_Nf (congrFun (zz_sC S2 m2 T1) i)
  have k2 : ∀ i, fx_N s2 c2 i = fx_N s1 c2 i := fun i => zz_Nf (congrFun (zz_sC S2 m2 T2) i)
  have f2 : ∀ c, τ c = some (118, 64) → c ≠ zz_c3 kd c0 c1 c2 → ∀ i, fx_N s1 c i = fx_N σ c i := fun c hc hn i => f c (n3 c hc).1 (n3 c hc).2.1 (n3 c hc).2.2 hn i
  rcases g with ⟨-, g1, g2⟩ | ⟨-, hk, V, g1, g2, g3⟩
  · have al : ∀ c, τ c = some (118, 64) → ∀ i, fx_N s1 c i = fx_N σ c i := fun c hc i => by
      by_cases e : c = zz_c3 kd c0 c1 c2
      · rw [e]; exact g1 i
      · exact f2 c hc e i
    have g2' : ∀ i, fx_N s2 b i = fx_N s1 b i := g2
    intro j hj
    rw [k0, k1, k2, al c0 T0, al c1 T1, al c2 T2, g2', g2', g2', b1, b1, b1]
    exact h j hj
  · have g2' : ∀ i : Nat, fx_N s1 (zz_c3 kd c0 c1 c2) i = if (i : Int) < d then V i else fx_N σ (zz_c3 kd c0 c1 c2) i := g2
    have g3' : ∀ i : Nat, fx_N s2 b i = if 64 * kd ≤ (i : Int) ∧ (i : Int) < 64 * kd + d then V (i - (64 * kd).toNat) else fx_N s1 b i := g3
    intro j hj
    obtain ⟨⟨h0, h1, h2⟩, h3, h4, h5⟩ := h j hj
    rcases (show kd = 0 ∨ kd = 1 ∨ kd = 2 by omega) with rfl | rfl | rfl
    · have ec : zz_c3 0 c0 c1 c2 = c0 := rfl
      rw [ec] at g2' f2
      rw [k0, k1, k2, f2 c1 T1 (Ne.symm ap.1), f2 c2 T2 (Ne.symm ap.2.1), g2', g3', g3', g3', if_neg (show ¬ (64 * (0 : Int) ≤ ((64 + j : Nat) : Int) ∧ ((64 + j : Nat) : Int) < 64 * 0 + d) by omega), if_neg (show ¬ (64 * (0 : Int) ≤ ((128 + j : Nat) : Int) ∧ ((128 + j : Nat) : Int) < 64 * 0 + d) by omega), b1, b1, b1]
      by_cases e : (j : Int) < d
      · rw [if_pos e, if_pos (by omega), show j - (64 * (0 : Int)).toNat = j from rfl]
        have z := g1 j e
        exact ⟨⟨rfl, h1, h2⟩, z.2.1, h4, h5⟩
      · rw [if_neg e, if_neg (by omega)]
        exact ⟨⟨h0, h1, h2⟩, h3, h4, h5⟩
    · have ec : zz_c3 1 c0 c1 c2 = c1 := rfl
      rw [ec] at g2' f2
      rw [k0, k1, k2, f2 c0 T0 ap.1, f2 c2 T2 (Ne.symm ap.2.2), g2', g3', g3', g3', if_neg (show ¬ (64 * (1 : Int) ≤ (j : Int) ∧ (j : Int) < 64 * 1 + d) by omega), if_neg (show ¬ (64 * (1 : Int) ≤ ((128 + j : Nat) : Int) ∧ ((128 + j : Nat) : Int) < 64 * 1 + d) by omega), b1, b1, b1]
      by_cases e : (j : Int) < d
      · rw [if_pos e, if_pos (by omega), show 64 + j - (64 * (1 : Int)).toNat = j by omega]
        have z := g1 j e
        exact ⟨⟨h0, rfl, h2⟩, h3, ⟨z.2.2 rfl, z.2.1.2⟩, h5⟩
      · rw [if_neg e, if_neg (by omega)]
        exact ⟨⟨h0, h1, h2⟩, h3, h4, h5⟩
    · have ec : zz_c3 2 c0 c1 c2 = c2 := rfl
      rw [ec] at g2' f2
      rw [k0, k1, k2, f2 c0 T0 ap.2.1, f2 c1 T1 ap.2.2, g2', g3', g3', g3', if_neg (show ¬ (64 * (2 : Int) ≤ (j : Int) ∧ (j : Int) < 64 * 2 + d) by omega), if_neg (show ¬ (64 * (2 : Int) ≤ ((64 + j : Nat) : Int) ∧ ((64 + j : Nat) : Int) < 64 * 2 + d) by omega), b1, b1, b1]
      by_cases e : (j : Int) < d
      · rw [if_pos e, if_pos (by omega), show 128 + j - (64 * (2 : Int)).toNat = j by omega]
        have z := g1 j e
        exact ⟨⟨h0, h1, rfl⟩, h3, h4, ⟨z.2.2 rfl, z.2.1.2⟩⟩
      · rw [if_neg e, if_neg (by omega)]
        exact ⟨⟨h0, h1, h2⟩, h3, h4, h5⟩
theorem zz_rowE {τ : q_T} {σ s1 s2 : q_V} {a1 c0 c1 c2 e0 e1 e2 b bm : Nat} {d kd r1 r2 : Int} {md1 md2 : List (Nat × Nat)} (h : zz_rs (fx_N σ) e0 e1 e2 bm) (K : ∃ q V1 : Nat, τ q = some (7, 1) ∧ τ V1 = some (111, 64) ∧ zz_RR a1 q V1 b (fx_N σ) (fx_N s1) d kd (zz_c3 kd c0 c1 c2) (r1, fx_N s1) (r2, fx_N s2)) (A1 : τ a1 = some (9, 1)) (ap : zz_a6 c0 c1 c2 e0 e1 e2) (S1 : q_S md1 τ σ s1) (S2 : q_S md2 τ s1 s2) (m1 : md1.contains (102, 0) = false) (m2 : md2.contains (118, 0) = false) (m3 : md2.contains (102, 0) = false) (T0 : τ e0 = some (118, 64)) (T1 : τ e1 = some (118, 64)) (T2 : τ e2 = some (118, 64)) (Tb : τ bm = some (102, 549)) : zz_rs (fx_N s2) e0 e1 e2 bm := by
  obtain ⟨q, V1, Tq, TV, -, f, -⟩ := K
  obtain ⟨n0, n1, n2⟩ := ap.n1
  have ff : ∀ c, τ c = some (118, 64) → (c ≠ c0 ∧ c ≠ c1 ∧ c ≠ c2) → ∀ i, fx_N s2 c i = fx_N σ c i := fun c hc hn i => by
    rw [zz_Nf (congrFun (zz_sC S2 m2 hc) i)]
    exact f c (zz_neT hc A1 (by decide)) (zz_neT hc Tq (by decide)) (zz_neT hc TV (by decide)) (fun e => by
      have z : zz_c3 kd c0 c1 c2 = c0 ∨ zz_c3 kd c0 c1 c2 = c1 ∨ zz_c3 kd c0 c1 c2 = c2 := zz_c3.all (P := fun c => c = c0 ∨ c = c1 ∨ c = c2) (Or.inl rfl) (Or.inr (Or.inl rfl)) (Or.inr (Or.inr rfl))
      rw [← e] at z
      rcases z with z | z | z
      · exact hn.1 z
      · exact hn.2.1 z
      · exact hn.2.2 z) i
  have bb : ∀ i, fx_N s2 bm i = fx_N σ bm i := fun i => (zz_Nf (S2.2.arr Tb (by decide) m3)).trans (zz_Nf (S1.2.arr Tb (by decide) m1))
  intro j hj
  rw [ff e0 T0 n0, ff e1 T1 n1, ff e2 T2 n2, bb, bb, bb]
  exact h j hj
/-! THE LAW IN FORCE: the loop keeps it -/
def zi_pl : List (Nat × Nat) := [(9, 3), (9, 4), (4, 4), (3, 0), (3, 1), (3, 2), (3, 3), (3, 4), (3, 5), (3, 6), (3, 7), (112, 0), (113, 0), (114, 0), (115, 0), (116, 0), (10, 13), (10, 21), (10, 22), (10, 23), (10, 24), (10, 25), (156, 0), (157, 0), (158, 0), (159, 0), (160, 0)]
def zi_p1 : List (Nat × Nat) := [(10, 3), (10, 13), (10, 21), (10, 22), (10, 23), (10, 24), (10, 25), (156, 0), (157, 0), (158, 0), (159, 0), (160, 0), (310, 0)]
def zi_p2 : List (Nat × Nat) := [(9, 3), (9, 4), (4, 4), (3, 0), (3, 1), (3, 2), (3, 3), (3, 4), (3, 5), (3, 6), (3, 7), (112, 0), (113, 0), (114, 0), (115, 0), (116, 0)]
theorem zi_mm {L md : List (Nat × Nat)} (hm : (L.all fun p => !(md.contains p)) = true) (p : Nat × Nat) (hp : p ∈ L) : md.contains p = false := by
  have z := List.all_eq_true.mp hm p hp
  cases e : md.contains p with
  | false => rfl
  | true =>
    rw [e] at z
    cases z
theorem zi_o {τ : q_T} {σ σ1 : q_V} {L md : List (Nat × Nat)} {b k j : Nat} (S : q_S md τ σ σ1) (hm : (L.all fun p => !(md.contains p)) = true) (hT : τ b = some (k, 1)) (hk : k < 100) (hp : (k, j) ∈ L) : fx_N σ1 b j = fx_N σ b j := zz_Nf (S.2 b k 1 j hT (by rw [if_pos hk]; exact zi_mm hm _ hp))
theorem zi_a {τ : q_T} {σ σ1 : q_V} {L md : List (Nat × Nat)} {b k n : Nat} (S : q_S md τ σ σ1) (hm : (L.all fun p => !(md.contains p)) = true) (hT : τ b = some (k, n)) (hk : ¬ k < 100) (hp : (k, 0) ∈ L) (i : Nat) : fx_N σ1 b i = fx_N σ b i := zz_Nf (S.2 b k n i hT (by rw [if_neg hk]; exact zi_mm hm _ hp))
theorem zi_ref {τ : q_T} {σ : q_V} {a k j b : Nat} (k2 n2 : Nat) (hI : q_I τ σ) (hT : τ a = some (k, 1)) (hj : j < q_lim k 1) (ht : q_f k j = (1, (k2 : Int), (n2 : Int))) (hb : fx_N σ a j = (b : Int)) : τ b = some (k2, n2) := by
  obtain ⟨b2, e1, e2⟩ := (hI a k 1 hT j hj).ref ht
  have e3 := zz_NR e1
  have e4 : b = b2 := by omega
  rw [e4]
  exact e2
def zi_T (τ : q_T) (q lf lr s1 v1 x5 x6 x7 s2 v2 y5 y6 y7 bc bcl bcf bch bct : Nat) : Prop := (τ q = some (4, 1) ∧ τ lf = some (3, 1) ∧ τ lr = some (3, 1)) ∧ (τ s1 = some (112, 240) ∧ τ v1 = some (113, 240) ∧ τ x5 = some (114, 16) ∧ τ x6 = some (115, 16) ∧ τ x7 = some (116, 16)) ∧ (τ s2 = some (112, 240) ∧ τ v2 = some (113, 240) ∧ τ y5 = some (114, 16) ∧ τ y6 = some (115, 16) ∧ τ y7 = some (116, 16)) ∧ (τ bc = some (156, 260) ∧ τ bcl = some (157, 16) ∧ τ bcf = some (158, 16) ∧ τ bch = some (159, 16) ∧ τ bct = some (160, 16))
theorem zi_P.T {τ : q_T} {σ : q_V} {a1 a2 q lf lr s1 v1 x5 x6 x7 s2 v2 y5 y6 y7 bc bcl bcf bch bct : Nat} {R : zl_L} (hI : q_I τ σ) (T1 : τ a1 = some (9, 1)) (T2 : τ a2 = some (10, 1)) (h : zi_P a1 a2 q lf lr s1 v1 x5 x6 x7 s2 v2 y5 y6 y7 bc bcl bcf bch bct R (fx_N σ)) : zi_T τ q lf lr s1 v1 x5 x6 x7 s2 v2 y5 y6 y7 bc bcl bcf bch bct := by
  obtain ⟨⟨⟨p3, p4, pq⟩, -, ⟨f3, f4, f5, f6, f7⟩, ⟨r3, r4, r5, r6, r7⟩, -⟩, -, ⟨⟨-, d21, d22, d23, d24, d25⟩, -⟩, -⟩ := h
  have Tq := zi_ref 4 1 hI T1 (j := 3) (by decide) rfl p3
  have Tf := zi_ref 3 1 hI T1 (j := 4) (by decide) rfl p4
  have Tr := zi_ref 3 1 hI Tq (j := 4) (by decide) rfl pq
  exact ⟨⟨Tq, Tf, Tr⟩, ⟨zi_ref 112 240 hI Tf (j := 3) (by decide) rfl f3, zi_ref 113 240 hI Tf (j := 4) (by decide) rfl f4, zi_ref 114 16 hI Tf (j := 5) (by decide) rfl f5, zi_ref 115 16 hI Tf (j := 6) (by decide) rfl f6, zi_ref 116 16 hI Tf (j := 7) (by decide) rfl f7⟩, ⟨zi_ref 112 240 hI Tr (j := 3) (by decide) rfl r3, zi_ref 113 240 hI Tr (j := 4) (by decide) rfl r4, zi_ref 114 16 hI Tr (j := 5) (by decide) rfl r5, zi_ref 115 16 hI Tr (j := 6) (by decide) rfl r6, zi_ref 116 16 hI Tr (j := 7) (by decide) rfl r7⟩, zi_ref 156 260 hI T2 (j := 21) (by decide) rfl d21, zi_ref 157 16 hI T2 (j := 22) (by decide) rfl d22, zi_ref 158 16 hI T2 (j := 23) (by decide) rfl d23, zi_ref 159 16 hI T2 (j := 24) (by decide) rfl d24, zi_ref 160 16 hI T2 (j := 25) (by decide) rfl d25⟩
/-- over a call that writes none of it -/
theorem zi_L.C {τ : q_T} {σ σ1 : q_V} {a1 a2 : Nat} {md : List (Nat × Nat)} (hI : q_I τ σ) (T1 : τ a1 = some (9, 1)) (T2 : τ a2 = some (10, 1)) (S : q_S md τ σ σ1) (hm : (zi_pl.all fun p => !(md.contains p)) = true) (h : zi_L a1 a2 (fx_N σ)) : zi_L a1 a2 (fx_N σ1) := by
  obtain ⟨R, q, lf, lr, s1, v1, x5, x6, x7, s2, v2, y5, y6, y7, bc, bcl, bcf, bch, bct, h⟩ := h
  obtain ⟨⟨Tq, Tf, Tr⟩, ⟨A3, A4, A5, A6, A7⟩, ⟨B3, B4, B5, B6, B7⟩, C1, C2, C3, C4, C5⟩ := h.T hI T1 T2
  obtain ⟨⟨⟨p3, p4, pq⟩, ne, ⟨f3, f4, f5, f6, f7⟩, ⟨r3, r4, r5, r6, r7⟩, na⟩, ⟨⟨c0, c1, c2⟩, cL⟩, ⟨⟨d13, d21, d22, d23, d24, d25⟩, dL⟩, hE, hR⟩ := h
  have e1 : fx_N σ1 lf 1 = fx_N σ lf 1 := zi_o S hm Tf (by decide) (by decide)
  refine ⟨R, q, lf, lr, s1, v1, x5, x6, x7, s2, v2, y5, y6, y7, bc, bcl, bcf, bch, bct, ⟨⟨(zi_o S hm T1 (by decide) (by decide)).trans p3, (zi_o S hm T1 (by decide) (by decide)).trans p4, (zi_o S hm Tq (by decide) (by decide)).trans pq⟩, ne, ⟨(zi_o S hm Tf (by decide) (by decide)).trans f3, (zi_o S hm Tf (by decide) (by decide)).trans f4, (zi_o S hm Tf (by decide) (by decide)).trans f5, (zi_o S hm Tf (by decide) (by decide)).trans f6, (zi_o S hm Tf (by decide) (by decide)).trans f7⟩, ⟨(zi_o S hm Tr (by decide) (by decide)).trans r3, (zi_o S hm Tr (by decide) (by decide)).trans r4, (zi_o S hm Tr (by decide) (by decide)).trans r5, (zi_o S hm Tr (by decide) (by decide)).trans r6, (zi_o S hm Tr (by decide) (by decide)).trans r7⟩, na⟩, ⟨⟨(zi_o S hm Tf (by decide) (by decide)).trans c0, by omega, (zi_o S hm Tf (by decide) (by decide)).trans c2⟩, ?_⟩, ⟨⟨(zi_o S hm T2 (by decide) (by decide)).trans d13, (zi_o S hm T2 (by decide) (by decide)).trans d21, (zi_o S hm T2 (by decide) (by decide)).trans d22, (zi_o S hm T2 (by decide) (by decide)).trans d23, (zi_o S hm T2 (by decide) (by decide)).trans d24, (zi_o S hm T2 (by decide) (by decide)).trans d25⟩, zv_Lr_mv (fun b hb i => ?_) R 0 dL⟩, hE, hR⟩
  · rw [e1]
    exact zv_Lc_mv (Int.le_refl _) (fun i _ => ⟨zi_a S hm A3 (by decide) (by decide) i, zi_a S hm A4 (by decide) (by decide) i⟩) R 0 (fun i _ _ => ⟨zi_a S hm A5 (by decide) (by decide) i, zi_a S hm A6 (by decide) (by decide) i, zi_a S hm A7 (by decide) (by decide) i⟩) cL
  · rcases hb with e | e | e | e | e <;> rw [e]
    · exact zi_a S hm C1 (by decide) (by decide) i
    · exact zi_a S hm C2 (by decide) (by decide) i
    · exact zi_a S hm C3 (by decide) (by decide) i
    · exact zi_a S hm C4 (by decide) (by decide) i
    · exact zi_a S hm C5 (by decide) (by decide) i
/-- as both are made -/
theorem zi_L.z {τ : q_T} {σ : q_V} {a1 a2 q lr lf : Nat} (hI : q_I τ σ) (T2 : τ a2 = some (10, 1)) (e3 : σ a1 3 = .ref q) (e4 : σ a1 4 = .ref lf) (h : zz_lz σ q lr lf) (h13 : σ a2 13 = .int 0) : zi_L a1 a2 (fx_N σ) := by
  obtain ⟨eq, ne, ⟨s1, v1, x5, x6, x7, s2, v2, y5, y6, y7, ⟨f3, f4, f5, f6, f7⟩, ⟨r3, r4, r5, r6, r7⟩, na⟩, z0, z1, z2⟩ := h
  obtain ⟨bc, g1, -⟩ := (hI a2 10 1 T2 21 (by decide)).ref (k := 156) (n := 260) rfl
  obtain ⟨bcl, g2, -⟩ := (hI a2 10 1 T2 22 (by decide)).ref (k := 157) (n := 16) rfl
  obtain ⟨bcf, g3, -⟩ := (hI a2 10 1 T2 23 (by decide)).ref (k := 158) (n := 16) rfl
  obtain ⟨bch, g4, -⟩ := (hI a2 10 1 T2 24 (by decide)).ref (k := 159) (n := 16) rfl
  obtain ⟨bct, g5, -⟩ := (hI a2 10 1 T2 25 (by decide)).ref (k := 160) (n := 16) rfl
  refine ⟨[], q, lf, lr, s1, v1, x5, x6, x7, s2, v2, y5, y6, y7, bc, bcl, bcf, bch, bct, ⟨⟨zz_NR e3, zz_NR e4, zz_NR eq⟩, ne, ⟨zz_NR f3, zz_NR f4, zz_NR f5, zz_NR f6, zz_NR f7⟩, ⟨zz_NR r3, zz_NR r4, zz_NR r5, zz_NR r6, zz_NR r7⟩, na⟩, ⟨⟨zz_N0 z0, ?_, zz_N0 z2⟩, True.intro⟩, ⟨⟨zz_N0 h13, zz_NR g1, zz_NR g2, zz_NR g3, zz_NR g4, zz_NR g5⟩, True.intro⟩, fun x hx => (by cases hx), by decide⟩
  rw [zz_N0 z1]
  decide
/-- both were given a law -/
theorem zi_law2 {τ : q_T} {σ s1 s2 : q_V} {a1 a2 ta tb : Nat} {t : Int32} {r1 r2 : Int} {x1 y1 : Int32} {md1 md2 : List (Nat × Nat)} (hI : q_I τ σ) (hI1 : q_I τ s1) (tp : zz_tp (fx_N σ) (fx_N s1) a1 a2 ta tb t.toInt) (ht : q_r t 0 260) (Ta : τ ta = some (110, 260)) (Tb : τ tb = some (310, 260)) (T1 : τ a1 = some (9, 1)) (T2 : τ a2 = some (10, 1)) (S1 : q_S md1 τ σ s1) (hm1 : (zi_p1.all fun p => !(md1.contains p)) = true) (S2 : q_S md2 τ s1 s2) (hm2 : (zi_p2.all fun p => !(md2.contains p)) = true) (e1 : (r1, fx_N s1) = f_X11_law (fx_N σ) a1 x1.toInt) (e2 : (r2, fx_N s2) = f_X12_law (fx_N s1) a2 y1.toInt) (q1 : y1.toInt = x1.toInt) (h : zi_L a1 a2 (fx_N σ)) : zi_L a1 a2 (fx_N s2) := by
  rw [q1] at e2
  have ht2 : 0 ≤ t.toInt ∧ t.toInt ≤ 260 := ht
  obtain ⟨R, q, lf, lr, g1, v1, x5, x6, x7, g2, v2, y5, y6, y7, bc, bcl, bcf, bch, bct, h⟩ := h
  obtain ⟨⟨Tq, Tf, Tr⟩, ⟨A3, A4, A5, A6, A7⟩, ⟨B3, B4, B5, B6, B7⟩, C1, C2, C3, C4, C5⟩ := h.T hI T1 T2
  have h0 := h
  obtain ⟨⟨⟨p3, p4, pq⟩, ne, ⟨f3, f4, f5, f6, f7⟩, ⟨r3, r4, r5, r6, r7⟩, ⟨na3, na4, na5, na6, na7⟩⟩, ⟨⟨c0, c1, c2⟩, cL⟩, ⟨⟨d13, d21, d22, d23, d24, d25⟩, dL⟩, hE, hR⟩ := h
  obtain ⟨⟨hu, hw⟩, ⟨hta, htb⟩, htc⟩ := tp
  by_cases gx : 1 ≤ x1.toInt ∧ x1.toInt ≤ 240
  · by_cases gt : t.toInt < x1.toInt
    · have k1 : f_X11_law (fx_N σ) a1 x1.toInt = (-1, fx_N σ) := by
        unfold f_X11_law
        simp only [fz_lt, zz_is, hu, if_pos gx, if_neg zz_n10, if_pos gt]
      have k2 : f_X12_law (fx_N s1) a2 x1.toInt = (-1, fx_N s1) := by
        unfold f_X12_law
        simp only [fz_lt, fz_lr, zz_is2, hw, if_pos gx, if_neg zz_n10, if_pos gt]
      rw [k1] at e1
      rw [k2] at e2
      rw [(Prod.mk.inj e2).2, (Prod.mk.inj e1).2]
      exact ⟨R, q, lf, lr, g1, v1, x5, x6, x7, g2, v2, y5, y6, y7, bc, bcl, bcf, bch, bct, h0⟩
    · obtain ⟨bs, k5, V5⟩ := (hI1 a2 10 1 T2 15 (by decide)).ref (k := 150) (n := 260) rfl
      obtain ⟨bw, k6, V6⟩ := (hI1 a2 10 1 T2 16 (by decide)).ref (k := 151) (n := 260) rfl
      obtain ⟨bl, k7, V7⟩ := (hI1 a2 10 1 T2 17 (by decide)).ref (k := 152) (n := 16) rfl
      obtain ⟨bf, k8, V8⟩ := (hI1 a2 10 1 T2 18 (by decide)).ref (k := 153) (n := 16) rfl
      obtain ⟨bh, k9, V9⟩ := (hI1 a2 10 1 T2 19 (by decide)).ref (k := 154) (n := 16) rfl
      obtain ⟨bt, k0, V0⟩ := (hI1 a2 10 1 T2 20 (by decide)).ref (k := 155) (n := 16) rfl
      have hv : ∀ i, i < 260 → -128 ≤ fx_N s1 tb i ∧ fx_N s1 tb i ≤ 127 := fun i hi => by
        obtain ⟨x, z1, z2⟩ := (hI1 tb 310 260 Tb i (by rw [q_limA (by decide)]; exact hi)).int (ai_310.2.2 i)
        rw [zz_N z1]
        exact z2
      obtain ⟨T, hT⟩ : ∃ T : Nat → Int, T = fun i => fx_N s1 tb i % 256 := ⟨_, rfl⟩
      have D21 : fx_N s1 a2 21 = (bc : Int) := (zi_o S1 hm1 T2 (by decide) (by decide)).trans d21
      have D22 : fx_N s1 a2 22 = (bcl : Int) := (zi_o S1 hm1 T2 (by decide) (by decide)).trans d22
      have D23 : fx_N s1 a2 23 = (bcf : Int) := (zi_o S1 hm1 T2 (by decide) (by decide)).trans d23
      have D24 : fx_N s1 a2 24 = (bch : Int) := (zi_o S1 hm1 T2 (by decide) (by decide)).trans d24
      have D25 : fx_N s1 a2 25 = (bct : Int) := (zi_o S1 hm1 T2 (by decide) (by decide)).trans d25
      have cw := zl_cW (T := T) (t := t.toInt) (x := x1.toInt) gx (by omega) ⟨hta, hu, p3, p4⟩ pq ⟨r3, r4⟩ ⟨r5, r6, r7⟩ (fun i hi => by rw [hT]; exact htc i (by omega))
        ⟨⟨q_neT Ta Tq (by decide), q_neT Ta Tr (by decide), q_neT Ta B3 (by decide), q_neT Ta B4 (by decide)⟩, ⟨q_neT Tq Tr (by decide), q_neT Tq B3 (by decide), q_neT Tq B4 (by decide)⟩, ⟨q_neT Tr Tq (by decide), q_neT Tr B3 (by decide), q_neT Tr B4 (by decide)⟩, ⟨q_neT B3 Tq (by decide), q_neT B3 Tr (by decide), q_neT B3 B4 (by decide)⟩, q_neT B4 Tq (by decide), q_neT B4 Tr (by decide), q_neT B4 B3 (by decide)⟩
        ⟨⟨q_neT Tq B5 (by decide), q_neT Tq B6 (by decide), q_neT Tq B7 (by decide)⟩, ⟨q_neT Tr B5 (by decide), q_neT Tr B6 (by decide), q_neT Tr B7 (by decide)⟩, q_neT Ta B5 (by decide), q_neT Ta B6 (by decide), q_neT Ta B7 (by decide)⟩
        ⟨⟨q_neT B3 B5 (by decide), q_neT B3 B6 (by decide), q_neT B3 B7 (by decide)⟩, ⟨q_neT B4 B5 (by decide), q_neT B4 B6 (by decide), q_neT B4 B7 (by decide)⟩, q_neT B5 B6 (by decide), q_neT B5 B7 (by decide), q_neT B6 B7 (by decide)⟩
        ⟨⟨q_neT T1 Tq (by decide), q_neT T1 Tr (by decide), q_neT T1 B3 (by decide), q_neT T1 B4 (by decide)⟩, q_neT T1 B5 (by decide), q_neT T1 B6 (by decide), q_neT T1 B7 (by decide)⟩
      have rw1 := zl_rW (T := T) (t := t.toInt) (x := x1.toInt) gx (by omega) hw htb ⟨zz_NR k5, zz_NR k6⟩ ⟨zz_NR k7, zz_NR k8, zz_NR k9, zz_NR k0⟩ ⟨D21, D22, D23, D24, D25⟩ (fun i hi => by rw [hT]; exact zz_and (hv i (by omega)))
        ⟨⟨q_neT Tb T2 (by decide), q_neT Tb V5 (by decide), q_neT Tb V6 (by decide)⟩, ⟨q_neT T2 V5 (by decide), q_neT T2 V6 (by decide)⟩, ⟨q_neT V5 T2 (by decide), q_neT V5 V6 (by decide)⟩, q_neT V6 T2 (by decide), q_neT V6 V5 (by decide)⟩
        ⟨⟨q_neT T2 V7 (by decide), q_neT T2 V8 (by decide), q_neT T2 V9 (by decide), q_neT T2 V0 (by decide)⟩, q_neT Tb V7 (by decide), q_neT Tb V8 (by decide), q_neT Tb V9 (by decide), q_neT Tb V0 (by decide)⟩
        ⟨⟨q_neT V7 V5 (by decide), q_neT V8 V5 (by decide), q_neT V9 V5 (by decide), q_neT V0 V5 (by decide)⟩, ⟨q_neT V7 V6 (by decide), q_neT V8 V6 (by decide), q_neT V9 V6 (by decide), q_neT V0 V6 (by decide)⟩, ⟨q_neT V7 V8 (by decide), q_neT V7 V9 (by decide), q_neT V7 V0 (by decide)⟩, ⟨q_neT V8 V9 (by decide), q_neT V8 V0 (by decide)⟩, q_neT V9 V0 (by decide)⟩
        ⟨⟨q_neT T2 C1 (by decide), q_neT T2 C2 (by decide), q_neT T2 C3 (by decide), q_neT T2 C4 (by decide), q_neT T2 C5 (by decide)⟩, ⟨q_neT V7 C1 (by decide), q_neT V7 C2 (by decide), q_neT V7 C3 (by decide), q_neT V7 C4 (by decide), q_neT V7 C5 (by decide)⟩, ⟨q_neT V8 C1 (by decide), q_neT V8 C2 (by decide), q_neT V8 C3 (by decide), q_neT V8 C4 (by decide), q_neT V8 C5 (by decide)⟩, ⟨q_neT V9 C1 (by decide), q_neT V9 C2 (by decide), q_neT V9 C3 (by decide), q_neT V9 C4 (by decide), q_neT V9 C5 (by decide)⟩, ⟨q_neT V0 C1 (by decide), q_neT V0 C2 (by decide), q_neT V0 C3 (by decide), q_neT V0 C4 (by decide), q_neT V0 C5 (by decide)⟩, q_neT V5 C1 (by decide), ⟨q_neT C1 C2 (by decide), q_neT C1 C3 (by decide), q_neT C1 C4 (by decide), q_neT C1 C5 (by decide)⟩, ⟨q_neT C2 C3 (by decide), q_neT C2 C4 (by decide), q_neT C2 C5 (by decide)⟩, ⟨q_neT C3 C4 (by decide), q_neT C3 C5 (by decide)⟩, q_neT C4 C5 (by decide)⟩
      rcases cw with ⟨w0, w, N, w1, ⟨w2, w3, w4⟩, w5, w6, ⟨w7, w8, w9, w10, w11⟩, w12⟩ | ⟨w0, w, w1, ⟨w2, w3, w4⟩, w5, w6⟩
      · rcases rw1 with ⟨-, z, z1, ⟨z2, z3, z4⟩, z5, z6⟩ | ⟨z0, -⟩
        · have hw1 : fx_N s1 = w := by
            rw [w1] at e1
            exact (Prod.mk.inj e1).2
          have hz1 : fx_N s2 = z := by
            rw [z1] at e2
            exact (Prod.mk.inj e2).2
          rw [← hw1] at w2 w3 w4 w5 w6 w7 w8 w11 w12
          rw [← hz1] at z2 z5 z6
          have len : ((zl_cls T x1.toInt 18 0 0).length : Int) = zl_law T x1.toInt 18 0 0 := z3.symm
          have f1 : fx_N s2 lr 1 = N := (zi_o S2 hm2 Tr (by decide) (by decide)).trans w8
          have lfo : ∀ j : Nat, fx_N s1 lf j = fx_N σ lf j := w5 lf (q_neT Tf T1 (by decide)) (q_neT Tf Tq (by decide)) ne (q_neT Tf B3 (by decide)) (q_neT Tf B4 (by decide)) (q_neT Tf B5 (by decide)) (q_neT Tf B6 (by decide)) (q_neT Tf B7 (by decide))
          refine ⟨zl_cls T x1.toInt 18 0 0, q, lr, lf, g2, v2, y5, y6, y7, g1, v1, x5, x6, x7, bc, bcl, bcf, bch, bct, ⟨⟨(zi_o S2 hm2 T1 (by decide) (by decide)).trans w3, (zi_o S2 hm2 T1 (by decide) (by decide)).trans w2, (zi_o S2 hm2 Tq (by decide) (by decide)).trans w4⟩, Ne.symm ne, ⟨(zi_o S2 hm2 Tr (by decide) (by decide)).trans ((w6 3 (by decide)).trans r3), (zi_o S2 hm2 Tr (by decide) (by decide)).trans ((w6 4 (by decide)).trans r4), (zi_o S2 hm2 Tr (by decide) (by decide)).trans ((w6 5 (by decide)).trans r5), (zi_o S2 hm2 Tr (by decide) (by decide)).trans ((w6 6 (by decide)).trans r6), (zi_o S2 hm2 Tr (by decide) (by decide)).trans ((w6 7 (by decide)).trans r7)⟩, ⟨(zi_o S2 hm2 Tf (by decide) (by decide)).trans ((lfo 3).trans f3), (zi_o S2 hm2 Tf (by decide) (by decide)).trans ((lfo 4).trans f4), (zi_o S2 hm2 Tf (by decide) (by decide)).trans ((lfo 5).trans f5), (zi_o S2 hm2 Tf (by decide) (by decide)).trans ((lfo 6).trans f6), (zi_o S2 hm2 Tf (by decide) (by decide)).trans ((lfo 7).trans f7)⟩, Ne.symm na3, Ne.symm na4, Ne.symm na5, Ne.symm na6, Ne.symm na7⟩, ⟨⟨((zi_o S2 hm2 Tr (by decide) (by decide)).trans w7).trans z3, by omega, (zi_o S2 hm2 Tr (by decide) (by decide)).trans w11⟩, ?_⟩, ⟨⟨z2.trans z3, (z5 21 (by decide)).trans D21, (z5 22 (by decide)).trans D22, (z5 23 (by decide)).trans D23, (z5 24 (by decide)).trans D24, (z5 25 (by decide)).trans D25⟩, z6⟩, zl_cls_E gx.2 18 0 0 (by decide) (by omega) w0, by omega⟩
          rw [f1]
          exact zv_Lc_mv (Int.le_refl _) (fun i _ => ⟨zi_a S2 hm2 B3 (by decide) (by decide) i, zi_a S2 hm2 B4 (by decide) (by decide) i⟩) _ 0 (fun i _ _ => ⟨zi_a S2 hm2 B5 (by decide) (by decide) i, zi_a S2 hm2 B6 (by decide) (by decide) i, zi_a S2 hm2 B7 (by decide) (by decide) i⟩) w12
        · omega
      · rcases rw1 with ⟨z0, -⟩ | ⟨-, z, z1, z5, z6⟩
        · omega
        · have hw1 : fx_N s1 = w := by
            rw [w1] at e1
            exact (Prod.mk.inj e1).2
          have hz1 : fx_N s2 = z := by
            rw [z1] at e2
            exact (Prod.mk.inj e2).2
          rw [← hw1] at w2 w3 w4 w5 w6
          rw [← hz1] at z5 z6
          have lfo : ∀ j : Nat, fx_N s1 lf j = fx_N σ lf j := w5 lf (q_neT Tf T1 (by decide)) (q_neT Tf Tq (by decide)) ne (q_neT Tf B3 (by decide)) (q_neT Tf B4 (by decide)) (q_neT Tf B5 (by decide)) (q_neT Tf B6 (by decide)) (q_neT Tf B7 (by decide))
          have f1 : fx_N s2 lf 1 = fx_N σ lf 1 := (zi_o S2 hm2 Tf (by decide) (by decide)).trans (lfo 1)
          have aro : ∀ b i : Nat, b ≠ a1 → b ≠ q → b ≠ lr → b ≠ g2 → b ≠ v2 → b ≠ y5 → b ≠ y6 → b ≠ y7 → fx_N s1 b i = fx_N σ b i := fun b i n1 n2 n3 n4 n5 n6 n7 n8 => w5 b n1 n2 n3 n4 n5 n6 n7 n8 i
          have o3 : ∀ i, fx_N s1 g1 i = fx_N σ g1 i := fun i => aro g1 i (q_neT A3 T1 (by decide)) (q_neT A3 Tq (by decide)) (q_neT A3 Tr (by decide)) na3 (q_neT A3 B4 (by decide)) (q_neT A3 B5 (by decide)) (q_neT A3 B6 (by decide)) (q_neT A3 B7 (by decide))
          have o4 : ∀ i, fx_N s1 v1 i = fx_N σ v1 i := fun i => aro v1 i (q_neT A4 T1 (by decide)) (q_neT A4 Tq (by decide)) (q_neT A4 Tr (by decide)) (q_neT A4 B3 (by decide)) na4 (q_neT A4 B5 (by decide)) (q_neT A4 B6 (by decide)) (q_neT A4 B7 (by decide))
          have o5 : ∀ i, fx_N s1 x5 i = fx_N σ x5 i := fun i => aro x5 i (q_neT A5 T1 (by decide)) (q_neT A5 Tq (by decide)) (q_neT A5 Tr (by decide)) (q_neT A5 B3 (by decide)) (q_neT A5 B4 (by decide)) na5 (q_neT A5 B6 (by decide)) (q_neT A5 B7 (by decide))
          have o6 : ∀ i, fx_N s1 x6 i = fx_N σ x6 i := fun i => aro x6 i (q_neT A6 T1 (by decide)) (q_neT A6 Tq (by decide)) (q_neT A6 Tr (by decide)) (q_neT A6 B3 (by decide)) (q_neT A6 B4 (by decide)) (q_neT A6 B5 (by decide)) na6 (q_neT A6 B7 (by decide))
          have o7 : ∀ i, fx_N s1 x7 i = fx_N σ x7 i := fun i => aro x7 i (q_neT A7 T1 (by decide)) (q_neT A7 Tq (by decide)) (q_neT A7 Tr (by decide)) (q_neT A7 B3 (by decide)) (q_neT A7 B4 (by decide)) (q_neT A7 B5 (by decide)) (q_neT A7 B6 (by decide)) na7
          refine ⟨R, q, lf, lr, g1, v1, x5, x6, x7, g2, v2, y5, y6, y7, bc, bcl, bcf, bch, bct, ⟨⟨(zi_o S2 hm2 T1 (by decide) (by decide)).trans w3, (zi_o S2 hm2 T1 (by decide) (by decide)).trans w2, (zi_o S2 hm2 Tq (by decide) (by decide)).trans w4⟩, ne, ⟨(zi_o S2 hm2 Tf (by decide) (by decide)).trans ((lfo 3).trans f3), (zi_o S2 hm2 Tf (by decide) (by decide)).trans ((lfo 4).trans f4), (zi_o S2 hm2 Tf (by decide) (by decide)).trans ((lfo 5).trans f5), (zi_o S2 hm2 Tf (by decide) (by decide)).trans ((lfo 6).trans f6), (zi_o S2 hm2 Tf (by decide) (by decide)).trans ((lfo 7).trans f7)⟩, ⟨(zi_o S2 hm2 Tr (by decide) (by decide)).trans ((w6 3 (by decide)).trans r3), (zi_o S2 hm2 Tr (by decide) (by decide)).trans ((w6 4 (by decide)).trans r4), (zi_o S2 hm2 Tr (by decide) (by decide)).trans ((w6 5 (by decide)).trans r5), (zi_o S2 hm2 Tr (by decide) (by decide)).trans ((w6 6 (by decide)).trans r6), (zi_o S2 hm2 Tr (by decide) (by decide)).trans ((w6 7 (by decide)).trans r7)⟩, na3, na4, na5, na6, na7⟩, ⟨⟨(zi_o S2 hm2 Tf (by decide) (by decide)).trans ((lfo 0).trans c0), by omega, (zi_o S2 hm2 Tf (by decide) (by decide)).trans ((lfo 2).trans c2)⟩, ?_⟩, ⟨⟨(z5 13 (by decide)).trans ((zi_o S1 hm1 T2 (by decide) (by decide)).trans d13), (z5 21 (by decide)).trans D21, (z5 22 (by decide)).trans D22, (z5 23 (by decide)).trans D23, (z5 24 (by decide)).trans D24, (z5 25 (by decide)).trans D25⟩, zv_Lr_mv (fun b hb i => ?_) R 0 dL⟩, hE, hR⟩
          · rw [f1]
            exact zv_Lc_mv (Int.le_refl _) (fun i _ => ⟨(zi_a S2 hm2 A3 (by decide) (by decide) i).trans (o3 i), (zi_a S2 hm2 A4 (by decide) (by decide) i).trans (o4 i)⟩) R 0 (fun i _ _ => ⟨(zi_a S2 hm2 A5 (by decide) (by decide) i).trans (o5 i), (zi_a S2 hm2 A6 (by decide) (by decide) i).trans (o6 i), (zi_a S2 hm2 A7 (by decide) (by decide) i).trans (o7 i)⟩) cL
          · rcases hb with e | e | e | e | e <;> rw [e]
            · exact (z6 bc (q_neT C1 T2 (by decide)) (q_neT C1 V5 (by decide)) (q_neT C1 V6 (by decide)) (q_neT C1 V7 (by decide)) (q_neT C1 V8 (by decide)) (q_neT C1 V9 (by decide)) (q_neT C1 V0 (by decide)) i).trans (zi_a S1 hm1 C1 (by decide) (by decide) i)
            · exact (z6 bcl (q_neT C2 T2 (by decide)) (q_neT C2 V5 (by decide)) (q_neT C2 V6 (by decide)) (q_neT C2 V7 (by decide)) (q_neT C2 V8 (by decide)) (q_neT C2 V9 (by decide)) (q_neT C2 V0 (by decide)) i).trans (zi_a S1 hm1 C2 (by decide) (by decide) i)
            · exact (z6 bcf (q_neT C3 T2 (by decide)) (q_neT C3 V5 (by decide)) (q_neT C3 V6 (by decide)) (q_neT C3 V7 (by decide)) (q_neT C3 V8 (by decide)) (q_neT C3 V9 (by decide)) (q_neT C3 V0 (by decide)) i).trans (zi_a S1 hm1 C3 (by decide) (by decide) i)
            · exact (z6 bch (q_neT C4 T2 (by decide)) (q_neT C4 V5 (by decide)) (q_neT C4 V6 (by decide)) (q_neT C4 V7 (by decide)) (q_neT C4 V8 (by decide)) (q_neT C4 V9 (by decide)) (q_neT C4 V0 (by decide)) i).trans (zi_a S1 hm1 C4 (by decide) (by decide) i)
            · exact (z6 bct (q_neT C5 T2 (by decide)) (q_neT C5 V5 (by decide)) (q_neT C5 V6 (by decide)) (q_neT C5 V7 (by decide)) (q_neT C5 V8 (by decide)) (q_neT C5 V9 (by decide)) (q_neT C5 V0 (by decide)) i).trans (zi_a S1 hm1 C5 (by decide) (by decide) i)
  · have k1 : f_X11_law (fx_N σ) a1 x1.toInt = (-1, fx_N σ) := by
      unfold f_X11_law
      simp only [fz_lt, zz_is, if_neg gx, if_true]
    have k2 : f_X12_law (fx_N s1) a2 x1.toInt = (-1, fx_N s1) := by
      unfold f_X12_law
      simp only [fz_lt, fz_lr, zz_is2, if_neg gx, if_true]
    rw [k1] at e1
    rw [k2] at e2
    rw [(Prod.mk.inj e2).2, (Prod.mk.inj e1).2]
    exact ⟨R, q, lf, lr, g1, v1, x5, x6, x7, g2, v2, y5, y6, y7, bc, bcl, bcf, bch, bct, h0⟩
/-! THE NIGHT in the law's loop: both roads alike, the kept ones too -/
def zw_P (τ : q_T) (a1 a2 : Nat) (N M O : Nat → Nat) (b bm bo : Nat) (u : fx_U) : Prop := ((zw_T τ N ∧ zw_T τ M ∧ zw_T τ O) ∧ (zp_dis 15 N ∧ zp_dis 15 M ∧ zp_dis 15 O) ∧ zw_ap N M ∧ zw_ap N O ∧ zw_ap M O) ∧ (τ b = some (100, 549) ∧ τ bo = some (101, 549) ∧ τ bm = some (102, 549)) ∧ (u a1 5 = (N 0 : Int) ∧ u a1 6 = (M 0 : Int) ∧ u a1 7 = (O 0 : Int)) ∧ (u a2 0 = (b : Int) ∧ u a2 1 = (bo : Int) ∧ u a2 2 = (bm : Int)) ∧ (zn_P N u ∧ zn_P M u ∧ zn_P O u) ∧ u a1 8 = u a2 45 ∧ zn_R N b (u (N 0) 0) u u ∧ (u a1 8 = 0 ∨ zn_R M bm (u (M 0) 0) u u)
def zw_L (τ : q_T) (a1 a2 : Nat) (u : fx_U) : Prop := ∃ (N M O : Nat → Nat) (b bm bo : Nat), zw_P τ a1 a2 N M O b bm bo u
/-- as both are made -/
theorem zw_L.z {τ : q_T} {σ : q_V} {a1 a2 b : Nat} {N M O : Nat → Nat} (hI : q_I τ σ) (T2 : τ a2 = some (10, 1)) (mN : zw_M τ N (fx_N σ)) (mM : zw_M τ M (fx_N σ)) (mO : zw_M τ O (fx_N σ)) (p1 : zw_ap N M) (p2 : zw_ap N O) (p3 : zw_ap M O) (e5 : σ a1 5 = .ref (N 0)) (e6 : σ a1 6 = .ref (M 0)) (e7 : σ a1 7 = .ref (O 0)) (e0 : σ a2 0 = .ref b) (k8 : σ a1 8 = .int 0) (k45 : σ a2 45 = .int 0) (h1 : zw_1 b (fx_N σ)) : zw_L τ a1 a2 (fx_N σ) := by
  obtain ⟨b2, g0, tb⟩ := (hI a2 10 1 T2 0 (by decide)).ref (k := 100) (n := 549) rfl
  obtain ⟨bo, g1, tbo⟩ := (hI a2 10 1 T2 1 (by decide)).ref (k := 101) (n := 549) rfl
  obtain ⟨bm, g2, tbm⟩ := (hI a2 10 1 T2 2 (by decide)).ref (k := 102) (n := 549) rfl
  have eb : b2 = b := by
    rw [g0] at e0
    exact Value.ref.inj e0
  subst eb
  obtain ⟨tN, dN, pN, ⟨n0, n15, n16, n17⟩, nD, nA, nC⟩ := mN
  obtain ⟨⟨q2, q3, q4, q5⟩, qD, qA, qc⟩ := h1
  have am : ∀ a : Nat, a < 2 → zn_A N b2 16 (fx_N σ) (fx_N σ) a := fun a ha => by
    obtain ⟨s1, s2, s3⟩ := nA a ha
    obtain ⟨t1, t2, t3⟩ := qA a ha
    unfold zn_A
    rw [s1, s2, s3, t1, t2, t3]
    exact ⟨rfl, ⟨rfl, by decide, by decide⟩, rfl, Or.inl rfl⟩
  refine ⟨N, M, O, b2, bm, bo, ⟨⟨tN, mM.1, mO.1⟩, ⟨dN, mM.2.1, mO.2.1⟩, p1, p2, p3⟩, ⟨tb, tbo, tbm⟩, ⟨zz_NR e5, zz_NR e6, zz_NR e7⟩, ⟨zz_NR g0, zz_NR g1, zz_NR g2⟩, ⟨pN, mM.2.2.1, mO.2.2.1⟩, (zz_N0 k8).trans (zz_N0 k45).symm, ?_, Or.inl (zz_N0 k8)⟩
  rw [n0]
  refine ⟨?_, fun j hj => ?_, ⟨am 0 (by decide), am 1 (by decide)⟩, fun _ => (nA 0 (by decide)).2.1, fun c hc => ?_⟩
  · unfold zn_G
    rw [n0, n15, n16, n17, q2, q3, q4, q5]
    exact ⟨⟨rfl, rfl⟩, rfl, Or.inl ⟨rfl, rfl⟩, rfl, by decide, by decide⟩
  · obtain ⟨s1, s2, s3⟩ := nD j hj
    obtain ⟨t1, t2, t3⟩ := qD j hj
    unfold zn_D
    rw [s1, s2, s3, t1, t2, t3]
    exact ⟨rfl, rfl, Or.inl ⟨rfl, rfl⟩⟩
  · obtain ⟨s1, s2⟩ := nC c hc
    refine Or.inl ⟨s1, s2, ?_⟩
    rw [qc]
    have h := zn_hasB (0 : Int32) hc (fx_N σ)
    rw [show (0 : Int32).toInt = 0 from rfl] at h
    rw [h]
    have e : (0 : Int32).toBitVec.getLsbD c = false := by
      rw [show (0 : Int32).toBitVec = 0#32 from rfl]
      exact BitVec.getLsbD_zero
    rw [e]
    rfl
/-- places that a call of the class leaves, one of the reference, one that has nothing to do with nights -/
def zw_m1 : List (Nat × Nat) := [(9, 5), (9, 6), (9, 7), (9, 8), (6, 1), (6, 2), (6, 3), (6, 4), (6, 5), (6, 6), (6, 7), (6, 8), (6, 9), (6, 10), (6, 11), (6, 12), (6, 13), (6, 14), (10, 0), (10, 1), (10, 2), (10, 45), (100, 0), (102, 0)]
def zw_m2 : List (Nat × Nat) := [(9, 5), (9, 6), (9, 7), (9, 8), (6, 0), (6, 1), (6, 2), (6, 3), (6, 4), (6, 5), (6, 6), (6, 7), (6, 8), (6, 9), (6, 10), (6, 11), (6, 12), (6, 13), (6, 14), (6, 15), (6, 16), (6, 17), (119, 0), (120, 0), (121, 0), (122, 0), (123, 0), (210, 0), (124, 0), (125, 0), (126, 0), (127, 0), (128, 0), (10, 0), (10, 1), (10, 2), (10, 45), (102, 0)]
def zw_m3 : List (Nat × Nat) := (100, 0) :: zw_m2
def zw_m6 : List (Nat × Nat) := [(6, 0), (6, 1), (6, 2), (6, 3), (6, 4), (6, 5), (6, 6), (6, 7), (6, 8), (6, 9), (6, 10), (6, 11), (6, 12), (6, 13), (6, 14), (6, 15), (6, 16), (6, 17)]
theorem zw_sub {K L md : List (Nat × Nat)} (hs : (K.all fun p => L.contains p) = true) (hm : (L.all fun p => !(md.contains p)) = true) : (K.all fun p => !(md.contains p)) = true := by
  rw [List.all_eq_true]
  intro p hp
  have h1 := List.all_eq_true.mp hs p hp
  have h2 : p ∈ L := by simpa using h1
  exact List.all_eq_true.mp hm p h2
theorem zn_R.D {N : Nat → Nat} {b : Nat} {D : Int} {u v : fx_U} (h : zn_R N b D u v) : u (N 0) 0 = D := h.1.1.1
theorem zn_R.mv {N : Nat → Nat} {b : Nat} {D : Int} {u v w z : fx_U} (hR : zn_R N b D u v) (k0 : ∀ j : Nat, j ≤ 17 → w (N 0) j = u (N 0) j) (k : ∀ j : Nat, 4 ≤ j → j ≤ 14 → ∀ i : Nat, w (N j) i = u (N j) i) (r : ∀ j : Nat, 192 ≤ j → j < 549 → z b j = v b j) : zn_R N b D w z := by
  obtain ⟨hG, hd, ⟨hA0, hA1⟩, hne, hC⟩ := hR
  refine ⟨?_, fun j hj => zn_Dm (hd j hj) ⟨k 4 (by decide) (by decide) j, k 5 (by decide) (by decide) j, k 6 (by decide) (by decide) j, k 7 (by decide) (by decide) j, k 8 (by decide) (by decide) j⟩ ⟨r _ (by omega) (by omega), r _ (by omega) (by omega), r _ (by omega) (by omega), r _ (by omega) (by omega), r _ (by omega) (by omega)⟩, ⟨zn_Am hA0 ⟨k 9 (by decide) (by decide) 0, k 10 (by decide) (by decide) 0, k 11 (by decide) (by decide) 0, k 12 (by decide) (by decide) 0⟩ (fun _ => k 5 (by decide) (by decide) _) ⟨r _ (by omega) (by omega), r _ (by omega) (by omega), r _ (by omega) (by omega), r _ (by omega) (by omega)⟩, zn_Am hA1 ⟨k 9 (by decide) (by decide) 1, k 10 (by decide) (by decide) 1, k 11 (by decide) (by decide) 1, k 12 (by decide) (by decide) 1⟩ (fun _ => k 5 (by decide) (by decide) _) ⟨r _ (by omega) (by omega), r _ (by omega) (by omega), r _ (by omega) (by omega), r _ (by omega) (by omega)⟩⟩, ?_, fun c hc => zn_Cm (hC c hc) ⟨k 13 (by decide) (by decide) c, k 14 (by decide) (by decide) c⟩ ⟨r _ (by omega) (by omega), r _ (by omega) (by omega), r _ (by omega) (by omega)⟩⟩
  · unfold zn_G at hG ⊢
    rw [k0 0 (by decide), k0 15 (by decide), k0 16 (by decide), k0 17 (by decide), r 512 (by decide) (by decide), r 513 (by decide) (by decide), r 514 (by decide) (by decide), r 515 (by decide) (by decide)]
    exact hG
  · rw [k 10 (by decide) (by decide) 0, k 10 (by decide) (by decide) 1]
    exact hne
section NightLoop
variable {τ : q_T} {σ s1 s2 : q_V} {a1 a2 : Nat} {N M O K : Nat → Nat} {b bm bo : Nat} {md md1 md2 : List (Nat × Nat)} {r1 r2 D : Int} {x1 x2 x3 y1 y2 y3 : Int32}
/-- a road's fields stay where none of them is written; its rows likewise -/
theorem zw_f {L : List (Nat × Nat)} (T : zw_T τ K) (S : q_S md τ σ s1) (hm : (L.all fun p => !(md.contains p)) = true) {j : Nat} (hp : (6, j) ∈ L) : fx_N s1 (K 0) j = fx_N σ (K 0) j := zi_o S hm (show τ (K 0) = some (6, 1) from T 0 (by decide)) (by decide) hp
theorem zw_r {L : List (Nat × Nat)} (T : zw_T τ K) (S : q_S md τ σ s1) (hm : (L.all fun p => !(md.contains p)) = true) {j : Nat} (h4 : 4 ≤ j) (hj : j ≤ 14) (hp : ∀ j : Nat, 4 ≤ j → j ≤ 14 → ((zw_k.getD j (0, 0)).1, 0) ∈ L) (i : Nat) : fx_N s1 (K j) i = fx_N σ (K j) i := by
  have Tj := T j hj
  have h2 : ¬ (zw_k.getD j (0, 0)).1 < 100 := by
    rcases (show j = 4 ∨ j = 5 ∨ j = 6 ∨ j = 7 ∨ j = 8 ∨ j = 9 ∨ j = 10 ∨ j = 11 ∨ j = 12 ∨ j = 13 ∨ j = 14 by omega) with rfl | rfl | rfl | rfl | rfl | rfl | rfl | rfl | rfl | rfl | rfl <;> decide
  exact zi_a S hm (k := (zw_k.getD j (0, 0)).1) (n := (zw_k.getD j (0, 0)).2) Tj h2 (hp j h4 hj) i
theorem zw_b {L : List (Nat × Nat)} {k : Nat} (T : τ b = some (k, 549)) (S : q_S md τ σ s1) (hm : (L.all fun p => !(md.contains p)) = true) (hk : ¬ k < 100) (hp : (k, 0) ∈ L) (i : Nat) : fx_N s1 b i = fx_N σ b i := zi_a S hm T hk hp i
theorem zw_Pf (T : zw_T τ K) (h : zn_P K (fx_N σ)) (S : q_S md τ σ s1) {L : List (Nat × Nat)} (hm : (L.all fun p => !(md.contains p)) = true) (hp : ∀ j : Nat, 1 ≤ j → j ≤ 14 → (6, j) ∈ L) : zn_P K (fx_N s1) := fun j j1 j2 => (zw_f T S hm (hp j j1 j2)).trans (h j j1 j2)
theorem zw_p6 : ∀ j : Nat, 1 ≤ j → j ≤ 14 → (6, j) ∈ zw_m1 := by
  intro j h1 h2
  rcases (show j = 1 ∨ j = 2 ∨ j = 3 ∨ j = 4 ∨ j = 5 ∨ j = 6 ∨ j = 7 ∨ j = 8 ∨ j = 9 ∨ j = 10 ∨ j = 11 ∨ j = 12 ∨ j = 13 ∨ j = 14 by omega) with rfl | rfl | rfl | rfl | rfl | rfl | rfl | rfl | rfl | rfl | rfl | rfl | rfl | rfl <;> decide
theorem zw_q6 : ∀ j : Nat, j ≤ 17 → (6, j) ∈ zw_m2 := by
  intro j h2
  rcases (show j = 0 ∨ j = 1 ∨ j = 2 ∨ j = 3 ∨ j = 4 ∨ j = 5 ∨ j = 6 ∨ j = 7 ∨ j = 8 ∨ j = 9 ∨ j = 10 ∨ j = 11 ∨ j = 12 ∨ j = 13 ∨ j = 14 ∨ j = 15 ∨ j = 16 ∨ j = 17 by omega) with rfl | rfl | rfl | rfl | rfl | rfl | rfl | rfl | rfl | rfl | rfl | rfl | rfl | rfl | rfl | rfl | rfl | rfl <;> decide
theorem zw_qr : ∀ j : Nat, 4 ≤ j → j ≤ 14 → ((zw_k.getD j (0, 0)).1, 0) ∈ zw_m2 := by
  intro j h1 h2
  rcases (show j = 4 ∨ j = 5 ∨ j = 6 ∨ j = 7 ∨ j = 8 ∨ j = 9 ∨ j = 10 ∨ j = 11 ∨ j = 12 ∨ j = 13 ∨ j = 14 by omega) with rfl | rfl | rfl | rfl | rfl | rfl | rfl | rfl | rfl | rfl | rfl <;> decide
/-- the class's side of a road stays over a call of the reference -/
theorem zw_Rc (T : zw_T τ K) (S : q_S md τ s1 s2) (hm : (zw_m2.all fun p => !(md.contains p)) = true) {v w : fx_U} (h : zn_R K b D (fx_N s1) v) (hv : ∀ j : Nat, 192 ≤ j → j < 549 → w b j = v b j) : zn_R K b D (fx_N s2) w := h.mv (fun j hj => zw_f T S hm (zw_q6 j hj)) (fun j h4 hj i => zw_r T S hm h4 hj zw_qr i) hv
/-- over a call that has nothing to do with nights -/
theorem zw_L.C (T1 : τ a1 = some (9, 1)) (T2 : τ a2 = some (10, 1)) (S : q_S md τ σ s1) (hm : (zw_m3.all fun p => !(md.contains p)) = true) (h : zw_L τ a1 a2 (fx_N σ)) : zw_L τ a1 a2 (fx_N s1) := by
  obtain ⟨N, M, O, b, bm, bo, ⟨⟨tN, tM, tO⟩, dd, ap⟩, ⟨tb, tbo, tbm⟩, ⟨h5, h6, h7⟩, ⟨g0, g1, g2⟩, ⟨pN, pM, pO⟩, hk, hR, hK⟩ := h
  have hm2 : (zw_m2.all fun p => !(md.contains p)) = true := zw_sub (by decide) hm
  have q8 : fx_N s1 a1 8 = fx_N σ a1 8 := zi_o S hm T1 (by decide) (by decide)
  have q45 : fx_N s1 a2 45 = fx_N σ a2 45 := zi_o S hm T2 (by decide) (by decide)
  have D0 : fx_N s1 (N 0) 0 = fx_N σ (N 0) 0 := zw_f tN S hm (by decide)
  have E0 : fx_N s1 (M 0) 0 = fx_N σ (M 0) 0 := zw_f tM S hm (by decide)
  refine ⟨N, M, O, b, bm, bo, ⟨⟨tN, tM, tO⟩, dd, ap⟩, ⟨tb, tbo, tbm⟩, ⟨(zi_o S hm T1 (by decide) (by decide)).trans h5, (zi_o S hm T1 (by decide) (by decide)).trans h6, (zi_o S hm T1 (by decide) (by decide)).trans h7⟩, ⟨(zi_o S hm T2 (by decide) (by decide)).trans g0, (zi_o S hm T2 (by decide) (by decide)).trans g1, (zi_o S hm T2 (by decide) (by decide)).trans g2⟩, ⟨zw_Pf tN pN S hm2 (fun j _ hj => zw_q6 j (by omega)), zw_Pf tM pM S hm2 (fun j _ hj => zw_q6 j (by omega)), zw_Pf tO pO S hm2 (fun j _ hj => zw_q6 j (by omega))⟩, by rw [q8, q45]; exact hk, ?_, ?_⟩
  · rw [D0]
    exact zw_Rc tN S hm2 hR (fun j _ _ => zw_b tb S hm (by decide) (by decide) j)
  · rw [q8, E0]
    rcases hK with h | h
    · exact Or.inl h
    · exact Or.inr (zw_Rc tM S hm2 h (fun j _ _ => zw_b tbm S hm (by decide) (by decide) j))
/-- what every call finds: cells apart -/
theorem zw_X {la bk : Nat} (T : zw_T τ K) (d : zp_dis 15 K) (Tl : τ la = some (3, 1)) (Tk : τ bk = some (117, 32)) : zn_X K la bk := ⟨fun j k hj hk _ h => d k j (by omega) (by omega) (Ne.symm h), fun j hj => ⟨zw_ne T Tl (zw_nx (by decide)) j hj, zw_ne T Tk (zw_nx (by decide)) j hj⟩, q_neT Tk Tl (by decide)⟩
theorem zw_X2 (d : zp_dis 15 K) : zn_X2 K := ⟨fun k hk h => d k 13 (by omega) (by decide) h, fun k hk h => d k 14 (by omega) (by decide) h, fun k hk h => d k 12 (by omega) (by decide) h, fun k hk h => d k 4 (by omega) (by decide) h⟩
theorem zw_Y {bq bf : Nat} (T2 : τ a2 = some (10, 1)) (Tb : τ b = some (100, 549)) (Tq : τ bq = some (162, 260)) (Tf : τ bf = some (163, 9)) : zn_Y a2 b bq bf := ⟨⟨q_neT Tb T2 (by decide), q_neT T2 Tb (by decide)⟩, ⟨q_neT T2 Tq (by decide), q_neT T2 Tf (by decide)⟩, q_neT Tb Tq (by decide), q_neT Tb Tf (by decide)⟩
/-- where both calls change the present road alone -/
theorem zw_step {la bk : Nat} {D2 : Int} (T1 : τ a1 = some (9, 1)) (T2 : τ a2 = some (10, 1)) (Tl : τ la = some (3, 1)) (Tk : τ bk = some (117, 32)) (S1 : q_S md1 τ σ s1) (hm1 : (zw_m1.all fun p => !(md1.contains p)) = true) (S2 : q_S md2 τ s1 s2) (hm2 : (zw_m2.all fun p => !(md2.contains p)) = true) (h : zw_P τ a1 a2 N M O b bm bo (fx_N σ)) (fr : zn_fr N la bk (fx_N σ) (fx_N s1)) (R : zn_R N b D2 (fx_N s1) (fx_N s2)) : zw_L τ a1 a2 (fx_N s2) := by
  obtain ⟨⟨⟨tN, tM, tO⟩, dd, ap⟩, ⟨tb, tbo, tbm⟩, ⟨h5, h6, h7⟩, ⟨g0, g1, g2⟩, ⟨pN, pM, pO⟩, hk, hR, hK⟩ := h
  have o1 : ∀ j : Nat, (9, j) ∈ zw_m1 → (9, j) ∈ zw_m2 → fx_N s2 a1 j = fx_N σ a1 j := fun j j1 j2 => (zi_o S2 hm2 T1 (by decide) j2).trans (zi_o S1 hm1 T1 (by decide) j1)
  have o2 : ∀ j : Nat, (10, j) ∈ zw_m1 → (10, j) ∈ zw_m2 → fx_N s2 a2 j = fx_N σ a2 j := fun j j1 j2 => (zi_o S2 hm2 T2 (by decide) j2).trans (zi_o S1 hm1 T2 (by decide) j1)
  have pf : ∀ {K : Nat → Nat}, zw_T τ K → zn_P K (fx_N σ) → zn_P K (fx_N s2) := fun t p => zw_Pf t (zw_Pf t p S1 hm1 zw_p6) S2 hm2 (fun j _ hj => zw_q6 j (by omega))
  have mf : ∀ j : Nat, j ≤ 14 → ∀ i : Nat, fx_N s1 (M j) i = fx_N σ (M j) i := fun j hj i => fr (M j) (zw_ne tM Tl (zw_nx (by decide)) j hj) (zw_ne tM Tk (zw_nx (by decide)) j hj) (fun k hk => Ne.symm (ap.1 k j hk hj)) i
  have q8 := o1 8 (by decide) (by decide)
  refine ⟨N, M, O, b, bm, bo, ⟨⟨tN, tM, tO⟩, dd, ap⟩, ⟨tb, tbo, tbm⟩, ⟨(o1 5 (by decide) (by decide)).trans h5, (o1 6 (by decide) (by decide)).trans h6, (o1 7 (by decide) (by decide)).trans h7⟩, ⟨(o2 0 (by decide) (by decide)).trans g0, (o2 1 (by decide) (by decide)).trans g1, (o2 2 (by decide) (by decide)).trans g2⟩, ⟨pf tN pN, pf tM pM, pf tO pO⟩, by rw [q8, o2 45 (by decide) (by decide)]; exact hk, ?_, ?_⟩
  · have R2 := zw_Rc tN S2 hm2 R (fun j _ _ => rfl)
    rw [R2.D]
    exact R2
  · rw [q8]
    rcases hK with e | e
    · exact Or.inl e
    · have e1 : zn_R M bm (fx_N σ (M 0) 0) (fx_N s1) (fx_N s1) := e.mv (fun j _ => mf 0 (by decide) j) (fun j _ hj i => mf j hj i) (fun j _ _ => zw_b tbm S1 hm1 (by decide) (by decide) j)
      have e2 := zw_Rc tM S2 hm2 e1 (fun j _ _ => zw_b tbm S2 hm2 (by decide) (by decide) j)
      refine Or.inr ?_
      rw [e2.D]
      exact e2
/-- what a pair of calls begins with -/
def zw_H (τ : q_T) (σ s1 s2 : q_V) (a1 a2 : Nat) : Prop := q_I τ σ ∧ (τ a1 = some (9, 1) ∧ τ a2 = some (10, 1)) ∧ (∃ md1 : List (Nat × Nat), q_S md1 τ σ s1 ∧ (zw_m1.all fun p => !(md1.contains p)) = true) ∧ (∃ md2 : List (Nat × Nat), q_S md2 τ s1 s2 ∧ (zw_m2.all fun p => !(md2.contains p)) = true) ∧ zw_L τ a1 a2 (fx_N σ)
theorem zw_H.mk (hI : q_I τ σ) (T1 : τ a1 = some (9, 1)) (T2 : τ a2 = some (10, 1)) (S1 : q_S md1 τ σ s1) (hm1 : (zw_m1.all fun p => !(md1.contains p)) = true) (S2 : q_S md2 τ s1 s2) (hm2 : (zw_m2.all fun p => !(md2.contains p)) = true) (h : zw_L τ a1 a2 (fx_N σ)) : zw_H τ σ s1 s2 a1 a2 := ⟨hI, ⟨T1, T2⟩, ⟨md1, S1, hm1⟩, ⟨md2, S2, hm2⟩, h⟩
/-- the roads, the class's law, the reference's work rows -/
theorem zw_H.go (H : zw_H τ σ s1 s2 a1 a2) : ∃ (N M O : Nat → Nat) (b bm bo la bk bq bf : Nat) (D : Int), zw_P τ a1 a2 N M O b bm bo (fx_N σ) ∧ (τ la = some (3, 1) ∧ τ bk = some (117, 32)) ∧ (fx_N σ a1 4 = (la : Int) ∧ fx_N σ la 8 = (bk : Int)) ∧ (zn_X N la bk ∧ zn_X2 N ∧ zn_Y a2 b bq bf) ∧ ((8 ≤ D ∧ D ≤ 64) ∧ zn_R N b D (fx_N σ) (fx_N s1)) ∧ (zn_P N (fx_N σ) ∧ fx_N σ a1 5 = (N 0 : Int) ∧ fx_N s1 a2 0 = (b : Int)) ∧ (∀ {D2 : Int}, zn_fr N la bk (fx_N σ) (fx_N s1) → zn_R N b D2 (fx_N s1) (fx_N s2) → zw_L τ a1 a2 (fx_N s2)) ∧ (fx_N s1 a2 27 = (bq : Int) ∧ fx_N s1 a2 28 = (bf : Int)) ∧ τ bq = some (162, 260) ∧ τ bf = some (163, 9) := by
  obtain ⟨hI, ⟨T1, T2⟩, ⟨md1, S1, hm1⟩, ⟨md2, S2, hm2⟩, hL⟩ := H
  obtain ⟨N, M, O, b, bm, bo, h⟩ := hL
  have h0 := h
  obtain ⟨⟨⟨tN, tM, tO⟩, ⟨dN, dM, dO⟩, ap⟩, ⟨tb, tbo, tbm⟩, ⟨h5, h6, h7⟩, ⟨g0, g1, g2⟩, ⟨pN, pM, pO⟩, hk, hR, hK⟩ := h
  obtain ⟨la, e4, Tl⟩ := (hI a1 9 1 T1 4 (by decide)).ref (k := 3) (n := 1) rfl
  obtain ⟨bk, e8, Tk⟩ := (hI la 3 1 Tl 8 (by decide)).ref (k := 117) (n := 32) rfl
  obtain ⟨bq, r27, Tq⟩ := (S1.1 a2 10 1 T2 27 (by decide)).ref (k := 162) (n := 260) rfl
  obtain ⟨bf, r28, Tf⟩ := (S1.1 a2 10 1 T2 28 (by decide)).ref (k := 163) (n := 9) rfl
  obtain ⟨x, d1, d2⟩ := (hI (N 0) 6 1 (tN 0 (by decide)) 0 (by decide)).int (lo := 8) (hi := 64) rfl
  have hD : 8 ≤ fx_N σ (N 0) 0 ∧ fx_N σ (N 0) 0 ≤ 64 := by
    rw [zz_N d1]
    exact d2
  exact ⟨N, M, O, b, bm, bo, la, bk, bq, bf, fx_N σ (N 0) 0, h0, ⟨Tl, Tk⟩, ⟨zz_NR e4, zz_NR e8⟩, ⟨zw_X tN dN Tl Tk, zw_X2 dN, zw_Y T2 tb Tq Tf⟩, ⟨hD, hR.mv (fun _ _ => rfl) (fun _ _ _ _ => rfl) (fun j _ _ => zw_b tb S1 hm1 (by decide) (by decide) j)⟩, ⟨pN, h5, (zi_o S1 hm1 T2 (by decide) (by decide)).trans g0⟩, fun fr R => zw_step T1 T2 Tl Tk S1 hm1 S2 hm2 h0 fr R, ⟨zz_NR r27, zz_NR r28⟩, Tq, Tf⟩
theorem zw_fin {α β : Type} {p q : α × β} {m : α} {r1 r2 : α} {w z u1 u2 : β} (e1 : (r1, u1) = p) (k1 : p = (m, w)) (e2 : (r2, u2) = q) (k2 : q = (m, z)) : r1 = r2 ∧ w = u1 ∧ z = u2 := by
  rw [k1] at e1
  rw [k2] at e2
  cases e1
  cases e2
  exact ⟨rfl, rfl, rfl⟩
theorem zw_cones (H : zw_H τ σ s1 s2 a1 a2) (e1 : (r1, fx_N s1) = f_X11_cones (fx_N σ) a1 x1.toInt) (e2 : (r2, fx_N s2) = f_X12_cones (fx_N s1) a2 y1.toInt) (q1 : y1.toInt = x1.toInt) : r1 = r2 ∧ zw_L τ a1 a2 (fx_N s2) := by
  rw [q1] at e2
  obtain ⟨N, M, O, b, bm, bo, la, bk, bq, bf, D, -, -, -, ⟨X, X2, Y⟩, ⟨hD, hR⟩, ⟨hP, h5, h0⟩, fin, -, -, -⟩ := H.go
  obtain ⟨w, z, m, k1, k2, f, R⟩ := zn_conesW (x := x1.toInt) X h5 h0 hR
  obtain ⟨e, rfl, rfl⟩ := zw_fin e1 k1 e2 k2
  exact ⟨e, fin f R⟩
theorem zw_dew (H : zw_H τ σ s1 s2 a1 a2) (e1 : (r1, fx_N s1) = f_X11_dew (fx_N σ) a1 x1.toInt) (e2 : (r2, fx_N s2) = f_X12_dew (fx_N s1) a2 y1.toInt) (q1 : y1.toInt = x1.toInt) : r1 = r2 ∧ zw_L τ a1 a2 (fx_N s2) := by
  rw [q1] at e2
  obtain ⟨N, M, O, b, bm, bo, la, bk, bq, bf, D, -, -, -, ⟨X, X2, Y⟩, ⟨hD, hR⟩, ⟨hP, h5, h0⟩, fin, -, -, -⟩ := H.go
  obtain ⟨w, z, m, k1, k2, f, R⟩ := zn_dewW (x := x1.toInt) X h5 h0 hR
  obtain ⟨e, rfl, rfl⟩ := zw_fin e1 k1 e2 k2
  exact ⟨e, fin f R⟩
theorem zw_car (H : zw_H τ σ s1 s2 a1 a2) (e1 : (r1, fx_N s1) = f_X11_car (fx_N σ) a1 x1.toInt x2.toInt x3.toInt) (e2 : (r2, fx_N s2) = f_X12_car (fx_N s1) a2 y1.toInt y2.toInt y3.toInt) (q1 : y1.toInt = x1.toInt) (q2 : y2.toInt = x2.toInt) (q3 : y3.toInt = x3.toInt) : r1 = r2 ∧ zw_L τ a1 a2 (fx_N s2) := by
  rw [q1, q2, q3] at e2
  obtain ⟨N, M, O, b, bm, bo, la, bk, bq, bf, D, hp, -, -, ⟨X, X2, Y⟩, ⟨hD, hR⟩, ⟨hP, h5, h0⟩, fin, -, -, -⟩ := H.go
  obtain ⟨c, g1, -⟩ := (H.2.2.1.choose_spec.1.1 b 100 549 hp.2.1.1 524 (by decide)).int (lo := -2147483648) (hi := 2147483647) rfl
  obtain ⟨w, z, m, k1, k2, f, R⟩ := zn_carW (x1 := x1.toInt) (x2 := x2.toInt) (x3 := x3.toInt) X2 hP h5 h0 hR ⟨c, zz_N g1⟩
  obtain ⟨e, rfl, rfl⟩ := zw_fin e1 k1 e2 k2
  exact ⟨e, fin f R⟩
theorem zw_party (H : zw_H τ σ s1 s2 a1 a2) (hx : x2.toInt = 0 ∨ x2.toInt = 1) (e1 : (r1, fx_N s1) = f_X11_party (fx_N σ) a1 x1.toInt x2.toInt x3.toInt) (e2 : (r2, fx_N s2) = f_X12_party (fx_N s1) a2 y1.toInt y2.toInt y3.toInt) (q1 : y1.toInt = x1.toInt) (q2 : y2.toInt = x2.toInt) (q3 : y3.toInt = x3.toInt) : r1 = r2 ∧ zw_L τ a1 a2 (fx_N s2) := by
  rw [q1, q2, q3] at e2
  obtain ⟨N, M, O, b, bm, bo, la, bk, bq, bf, D, hp, ⟨Tl, Tk⟩, -, ⟨X, X2, Y⟩, ⟨hD, hR⟩, ⟨hP, h5, h0⟩, fin, -, -, -⟩ := H.go
  have T1 := H.2.1.1
  obtain ⟨w, z, m, k1, k2, f, R⟩ := zn_partyW (x1 := x1.toInt) (x2 := x2.toInt) (x3 := x3.toInt) X X2 Y hP h5 ⟨q_neT T1 Tl (by decide), q_neT T1 Tk (by decide), fun j hj => Ne.symm (zw_ne hp.1.1.1 T1 (zw_nx (by decide)) j hj)⟩ h0 hR hD hx
  obtain ⟨e, rfl, rfl⟩ := zw_fin e1 k1 e2 k2
  exact ⟨e, fin f R⟩
theorem zw_old (H : zw_H τ σ s1 s2 a1 a2) (e1 : (r1, fx_N s1) = f_X11_old (fx_N σ) a1 x1.toInt x2.toInt x3.toInt) (e2 : (r2, fx_N s2) = f_X12_old (fx_N s1) a2 y1.toInt y2.toInt y3.toInt) (q1 : y1.toInt = x1.toInt) (q2 : y2.toInt = x2.toInt) (q3 : y3.toInt = x3.toInt) : r1 = r2 ∧ zw_L τ a1 a2 (fx_N s2) := by
  rw [q1, q2, q3] at e2
  obtain ⟨N, M, O, b, bm, bo, la, bk, bq, bf, D, hp, ⟨Tl, Tk⟩, -, ⟨X, X2, Y⟩, ⟨hD, hR⟩, ⟨hP, h5, h0⟩, fin, -, -, -⟩ := H.go
  obtain ⟨w, z, m, k1, k2, f, R⟩ := zn_oldW (la := la) (bk := bk) (x1 := x1.toInt) (x2 := x2.toInt) (x3 := x3.toInt) X2 hP h5 h0 hR hD
  obtain ⟨e, rfl, rfl⟩ := zw_fin e1 k1 e2 k2
  exact ⟨e, fin f R⟩
theorem zw_road (H : zw_H τ σ s1 s2 a1 a2) (e1 : (r1, fx_N s1) = f_X11_road (fx_N σ) a1 x1.toInt) (e2 : (r2, fx_N s2) = f_X12_road (fx_N s1) a2 y1.toInt) (q1 : y1.toInt = x1.toInt) : r1 = r2 ∧ zw_L τ a1 a2 (fx_N s2) := by
  rw [q1] at e2
  obtain ⟨N, M, O, b, bm, bo, la, bk, bq, bf, D, hp, ⟨Tl, Tk⟩, -, ⟨X, X2, Y⟩, ⟨hD, hR⟩, ⟨hP, h5, h0⟩, fin, -, -, -⟩ := H.go
  obtain ⟨w, z, m, D2, -, k1, k2, f, R⟩ := zn_roadW (x := x1.toInt) X X2 Y hP h5 h0 hR hD
  obtain ⟨e, rfl, rfl⟩ := zw_fin e1 k1 e2 k2
  exact ⟨e, fin f R⟩
theorem zw_burns (H : zw_H τ σ s1 s2 a1 a2) (e1 : (r1, fx_N s1) = f_X11_burns (fx_N σ) a1 x1.toInt x2.toInt) (e2 : (r2, fx_N s2) = f_X12_burns (fx_N s1) a2 y1.toInt y2.toInt) (q1 : y1.toInt = x1.toInt) (q2 : y2.toInt = x2.toInt) : r1 = r2 ∧ zw_L τ a1 a2 (fx_N s2) := by
  rw [q1, q2] at e2
  obtain ⟨N, M, O, b, bm, bo, la, bk, bq, bf, D, hp, ⟨Tl, Tk⟩, -, ⟨X, X2, Y⟩, ⟨hD, hR⟩, ⟨hP, h5, h0⟩, fin, -, -, -⟩ := H.go
  obtain ⟨w, z, m, k1, k2, f, R⟩ := zn_burnsW (x1 := x1.toInt) (x2 := x2.toInt) X Y hP h5 h0 hR hD
  obtain ⟨e, rfl, rfl⟩ := zw_fin e1 k1 e2 k2
  exact ⟨e, fin f R⟩
/-! the law in the night -/
theorem zv_hc.to {la bk sg vl l5 l6 l7 ar c0 c1 c2 ar2 d0 d1 d2 : Nat} {R : zl_L} {u w : fx_U} (h : zv_hc la bk sg vl l5 l6 l7 ar c0 c1 c2 D R u) (k1 : ∀ j : Nat, j < 9 → w la j = u la j) (k2 : ∀ d : Nat, (d = sg ∨ d = vl ∨ d = l5 ∨ d = l6 ∨ d = l7) → ∀ i : Nat, w d i = u d i) (kr : w ar2 0 = D ∧ w ar2 1 = (d0 : Int) ∧ w ar2 2 = (d1 : Int) ∧ w ar2 3 = (d2 : Int)) : zv_hc la bk sg vl l5 l6 l7 ar2 d0 d1 d2 D R w := by
  obtain ⟨⟨⟨h0, h1⟩, ⟨h3, h4, h5, h6, h7, h8⟩, hL⟩, -⟩ := h
  have e1 : w la 1 = u la 1 := k1 1 (by decide)
  refine ⟨⟨⟨(k1 0 (by decide)).trans h0, by omega⟩, ⟨(k1 3 (by decide)).trans h3, (k1 4 (by decide)).trans h4, (k1 5 (by decide)).trans h5, (k1 6 (by decide)).trans h6, (k1 7 (by decide)).trans h7, (k1 8 (by decide)).trans h8⟩, ?_⟩, kr⟩
  rw [e1]
  exact zv_Lc_mv (Int.le_refl _) (fun i _ => ⟨k2 sg (Or.inl rfl) i, k2 vl (Or.inr (Or.inl rfl)) i⟩) R 0 (fun i _ _ => ⟨k2 l5 (Or.inr (Or.inr (Or.inl rfl))) i, k2 l6 (Or.inr (Or.inr (Or.inr (Or.inl rfl)))) i, k2 l7 (Or.inr (Or.inr (Or.inr (Or.inr rfl)))) i⟩) hL
theorem zn_qc.eq {la bk : Nat} {A B A2 B2 : Int → Int → Int → Int} {u : fx_U} (h : zn_qc N la bk A B D u) (k : zn_qc N la bk A2 B2 D u) {i t p : Int} (i0 : 0 ≤ i) (i1 : i < D) (hp : p = 0 ∨ p = 1) : A2 i t p = A i t p ∧ B2 i t p = B i t p := by
  obtain ⟨⟨y, e1, -⟩, z, e2, -⟩ := h u zn_ca.rf i t p i0 i1 hp
  obtain ⟨⟨y', f1, -⟩, z', f2, -⟩ := k u zn_ca.rf i t p i0 i1 hp
  rw [e1] at f1
  rw [e2] at f2
  exact ⟨(Prod.mk.inj f1).1.symm, (Prod.mk.inj f2).1.symm⟩
theorem zn_qr.as {bq bf : Nat} {A B A2 B2 : Int → Int → Int → Int} {v : fx_U} (h : zn_qr a2 b bq bf A2 B2 D v) (k : ∀ i t p : Int, 0 ≤ i → i < D → (p = 0 ∨ p = 1) → A2 i t p = A i t p ∧ B2 i t p = B i t p) : zn_qr a2 b bq bf A B D v := fun z hz i t p i0 i1 hp => by
  obtain ⟨⟨y, e1, g1⟩, z', e2, g2⟩ := h z hz i t p i0 i1 hp
  obtain ⟨k1, k2⟩ := k i t p i0 i1 hp
  rw [k1] at e1
  rw [k2] at e2
  exact ⟨⟨y, e1, g1⟩, z', e2, g2⟩
/-- the rows of both, as the loop knows them -/
def zw_Q (σ : q_V) (a1 a2 : Nat) : Prop := ∃ br bn c0 c1 c2 : Nat, σ a1 5 = .ref br ∧ (σ br 1 = .ref c0 ∧ σ br 2 = .ref c1 ∧ σ br 3 = .ref c2) ∧ σ a2 0 = .ref bn ∧ zz_rs (fx_N σ) c0 c1 c2 bn
theorem zw_Q.mk {br bn c0 c1 c2 : Nat} (h5 : σ a1 5 = .ref br) (hc : σ br 1 = .ref c0 ∧ σ br 2 = .ref c1 ∧ σ br 3 = .ref c2) (h0 : σ a2 0 = .ref bn) (h : zz_rs (fx_N σ) c0 c1 c2 bn) : zw_Q σ a1 a2 := ⟨br, bn, c0, c1, c2, h5, hc, h0, h⟩
theorem zw_rowK {d kd : Int} {cs : Nat} (hd : d ≤ 64) (Kr : ∃ q V1 : Nat, τ q = some (7, 1) ∧ τ V1 = some (111, 64) ∧ zz_RR a1 q V1 b (fx_N σ) (fx_N s1) d kd cs (r1, fx_N s1) (r2, fx_N s2)) : ∀ j : Nat, 192 ≤ j → fx_N s2 b j = fx_N s1 b j := fun j hj => by
  obtain ⟨q, V1, -, -, -, -, g⟩ := Kr
  rcases g with ⟨-, -, g⟩ | ⟨-, hk, V, -, -, g⟩
  · exact g j
  · refine (g j).trans ?_
    rw [if_neg (by omega)]
theorem zw_cast {x y : Nat} {e : Int} (h : e = (x : Int)) (k : e = (y : Int)) : x = y := by omega
theorem zw_Q.go (h : zw_Q σ a1 a2) (p5 : fx_N σ a1 5 = (N 0 : Int)) (pN : zn_P N (fx_N σ)) (g0 : fx_N σ a2 0 = (b : Int)) : zz_rs (fx_N σ) (N 1) (N 2) (N 3) b := by
  obtain ⟨br, bn, c0, c1, c2, h5, ⟨h1, h2, h3⟩, h0, hr⟩ := h
  have e : br = N 0 := zw_cast (zz_NR h5) p5
  have eb : bn = b := zw_cast (zz_NR h0) g0
  subst e eb
  have e1 : c0 = N 1 := zw_cast (zz_NR h1) (pN 1 (by decide) (by decide))
  have e2 : c1 = N 2 := zw_cast (zz_NR h2) (pN 2 (by decide) (by decide))
  have e3 : c2 = N 3 := zw_cast (zz_NR h3) (pN 3 (by decide) (by decide))
  subst e1 e2 e3
  exact hr
/-- both are asked the same, on the present road and on the one for trials -/
theorem zw_base {la bk bq bf : Nat} (hI : q_I τ σ) (T1 : τ a1 = some (9, 1)) (T2 : τ a2 = some (10, 1)) (S1 : q_S md1 τ σ s1) (hm1 : (zi_p1.all fun p => !(md1.contains p)) = true) (hm : (zw_m1.all fun p => !(md1.contains p)) = true) (hL : zi_L a1 a2 (fx_N σ)) (hp : zw_P τ a1 a2 N M O b bm bo (fx_N σ)) (hrs : zz_rs (fx_N σ) (N 1) (N 2) (N 3) b) (rD : 8 ≤ D ∧ D ≤ 64) (uD : fx_N σ (N 0) 0 = D) (vD : fx_N s1 b 512 = D) (Tl : τ la = some (3, 1)) (Tk : τ bk = some (117, 32)) (e4 : fx_N σ a1 4 = (la : Int)) (e8 : fx_N σ la 8 = (bk : Int)) (r27 : fx_N s1 a2 27 = (bq : Int)) (r28 : fx_N s1 a2 28 = (bf : Int)) (Tq : τ bq = some (162, 260)) (Tf : τ bf = some (163, 9)) : ∃ A B : Int → Int → Int → Int, (zn_qc N la bk A B D (fx_N σ) ∧ zn_qr a2 b bq bf A B D (fx_N s1) ∧ zp_bd A B D) ∧ (∀ w : fx_U, (∀ c : Nat, (∀ j : Nat, j ≤ 14 → c ≠ O j) → ∀ i : Nat, w c i = fx_N σ c i) → zn_P O w → w (O 0) 0 = D → (∀ k j : Nat, 1 ≤ k → k ≤ 3 → j < 64 → w (O k) j = fx_N σ (N k) j) → zn_qc O la bk A B D w) ∧ ∀ z : fx_U, (∀ c : Nat, c ≠ bo → ∀ i : Nat, z c i = fx_N s1 c i) → zn_qr a2 b bq bf A B D z := by
  obtain ⟨⟨⟨tN, tM, tO⟩, ⟨dN, dM, dO⟩, apM, apO, -⟩, ⟨tb, tbo, tbm⟩, -, ⟨g0, -, -⟩, ⟨pN, -, -⟩, -, -, -⟩ := hp
  obtain ⟨R, q, lf, lr, sg1, v1, x5, x6, x7, g2, v2, y5, y6, y7, bc, bcl, bcf, bch, bct, hP⟩ := hL
  obtain ⟨⟨Tqq, Tf2, Tr⟩, ⟨A3, A4, A5, A6, A7⟩, -, C1, C2, C3, C4, C5⟩ := hP.T hI T1 T2
  obtain ⟨⟨⟨p3, p4, -⟩, -, ⟨f3, f4, f5, f6, f7⟩, -, -⟩, ⟨⟨k0, k1, -⟩, cL⟩, ⟨⟨d13, d21, d22, d23, d24, d25⟩, dL⟩, hE, hR⟩ := hP
  have el : lf = la := zw_cast p4 e4
  subst el
  have hc1 : zv_hc lf bk sg1 v1 x5 x6 x7 (N 0) (N 1) (N 2) (N 3) D R (fx_N σ) := ⟨⟨⟨k0, k1⟩, ⟨f3, f4, f5, f6, f7, e8⟩, cL⟩, uD, pN 1 (by decide) (by decide), pN 2 (by decide) (by decide), pN 3 (by decide) (by decide)⟩
  have hr1 : zv_hr a2 b bq bc bf bcl bcf bch bct D R (fx_N s1) := by
    refine ⟨⟨(zi_o S1 hm1 T2 (by decide) (by decide)).trans d13, (zi_o S1 hm1 T2 (by decide) (by decide)).trans d21, (zi_o S1 hm1 T2 (by decide) (by decide)).trans d22, (zi_o S1 hm1 T2 (by decide) (by decide)).trans d23, (zi_o S1 hm1 T2 (by decide) (by decide)).trans d24, (zi_o S1 hm1 T2 (by decide) (by decide)).trans d25, r27, r28⟩, ⟨(zi_o S1 hm T2 (by decide) (by decide)).trans g0, vD⟩, zv_Lr_mv (fun d hd i => ?_) R 0 dL⟩
    rcases hd with e | e | e | e | e <;> rw [e]
    · exact zi_a S1 hm1 C1 (by decide) (by decide) i
    · exact zi_a S1 hm1 C2 (by decide) (by decide) i
    · exact zi_a S1 hm1 C3 (by decide) (by decide) i
    · exact zi_a S1 hm1 C4 (by decide) (by decide) i
    · exact zi_a S1 hm1 C5 (by decide) (by decide) i
  have hap : ∀ {K : Nat → Nat}, zw_T τ K → zv_ap lf bk sg1 v1 x5 x6 x7 (K 0) (K 1) (K 2) (K 3) := fun t => ⟨⟨q_neT Tl Tk (by decide), q_neT Tk Tl (by decide)⟩, ⟨q_neT A3 Tl (by decide), q_neT A3 Tk (by decide)⟩, ⟨q_neT A4 Tl (by decide), q_neT A4 Tk (by decide)⟩, ⟨q_neT A5 Tl (by decide), q_neT A5 Tk (by decide)⟩, ⟨q_neT A6 Tl (by decide), q_neT A6 Tk (by decide)⟩, ⟨q_neT A7 Tl (by decide), q_neT A7 Tk (by decide)⟩, ⟨zw_ne t Tl (zw_nx (by decide)) 0 (by decide), zw_ne t Tk (zw_nx (by decide)) 0 (by decide)⟩, ⟨zw_ne t Tl (zw_nx (by decide)) 1 (by decide), zw_ne t Tk (zw_nx (by decide)) 1 (by decide)⟩, ⟨zw_ne t Tl (zw_nx (by decide)) 2 (by decide), zw_ne t Tk (zw_nx (by decide)) 2 (by decide)⟩, ⟨zw_ne t Tl (zw_nx (by decide)) 3 (by decide), zw_ne t Tk (zw_nx (by decide)) 3 (by decide)⟩⟩
  have haq : zv_aq a2 b bq bc bf bcl bcf bch bct := ⟨q_neT Tf Tq (by decide), ⟨q_neT T2 Tq (by decide), q_neT T2 Tf (by decide)⟩, ⟨q_neT tb Tq (by decide), q_neT tb Tf (by decide)⟩, ⟨q_neT C1 Tq (by decide), q_neT C1 Tf (by decide)⟩, ⟨q_neT C2 Tq (by decide), q_neT C2 Tf (by decide)⟩, ⟨q_neT C3 Tq (by decide), q_neT C3 Tf (by decide)⟩, ⟨q_neT C4 Tq (by decide), q_neT C4 Tf (by decide)⟩, ⟨q_neT C5 Tq (by decide), q_neT C5 Tf (by decide)⟩⟩
  have six : ∀ {K : Nat → Nat} {d : Nat} {x : Nat × Nat}, zw_T τ K → τ d = some x → (x = (112, 240) ∨ x = (113, 240) ∨ x = (114, 16) ∨ x = (115, 16) ∨ x = (116, 16)) → d ≠ lf ∧ d ≠ bk ∧ d ≠ K 0 ∧ ∀ j : Nat, 5 ≤ j → j ≤ 11 → d ≠ K j := fun t hd hx => by
    rcases hx with rfl | rfl | rfl | rfl | rfl <;> exact ⟨q_neT hd Tl (by decide), q_neT hd Tk (by decide), Ne.symm (zw_ne t hd (zw_nx (by decide)) 0 (by decide)), fun j _ hj => Ne.symm (zw_ne t hd (zw_nx (by decide)) j (by omega))⟩
  have nK : ∀ {K : Nat → Nat}, zw_T τ K → zp_dis 15 K → ∀ d : Nat, (d = sg1 ∨ d = v1 ∨ d = x5 ∨ d = x6 ∨ d = x7 ∨ d = K 1 ∨ d = K 2 ∨ d = K 3) → d ≠ lf ∧ d ≠ bk ∧ d ≠ K 0 ∧ ∀ j : Nat, 5 ≤ j → j ≤ 11 → d ≠ K j := fun {K} t dd d hd => by
    have row : ∀ k : Nat, 1 ≤ k → k ≤ 3 → K k ≠ lf ∧ K k ≠ bk ∧ K k ≠ K 0 ∧ ∀ j : Nat, 5 ≤ j → j ≤ 11 → K k ≠ K j := fun k q1 q2 => ⟨zw_ne t Tl (zw_nx (by decide)) k (by omega), zw_ne t Tk (zw_nx (by decide)) k (by omega), dd k 0 (by omega) (by decide) (by omega), fun j q3 q4 => dd k j (by omega) (by omega) (by omega)⟩
    rcases hd with e | e | e | e | e | e | e | e <;> rw [e]
    · exact six t A3 (by decide)
    · exact six t A4 (by decide)
    · exact six t A5 (by decide)
    · exact six t A6 (by decide)
    · exact six t A7 (by decide)
    · exact row 1 (by decide) (by decide)
    · exact row 2 (by decide) (by decide)
    · exact row 3 (by decide) (by decide)
  have nJ : ∀ d : Nat, (d = bc ∨ d = bcl ∨ d = bcf ∨ d = bch ∨ d = bct) → d ≠ a2 ∧ d ≠ b ∧ d ≠ bq ∧ d ≠ bf := fun d hd => by
    rcases hd with e | e | e | e | e <;> rw [e]
    · exact ⟨q_neT C1 T2 (by decide), q_neT C1 tb (by decide), q_neT C1 Tq (by decide), q_neT C1 Tf (by decide)⟩
    · exact ⟨q_neT C2 T2 (by decide), q_neT C2 tb (by decide), q_neT C2 Tq (by decide), q_neT C2 Tf (by decide)⟩
    · exact ⟨q_neT C3 T2 (by decide), q_neT C3 tb (by decide), q_neT C3 Tq (by decide), q_neT C3 Tf (by decide)⟩
    · exact ⟨q_neT C4 T2 (by decide), q_neT C4 tb (by decide), q_neT C4 Tq (by decide), q_neT C4 Tf (by decide)⟩
    · exact ⟨q_neT C5 T2 (by decide), q_neT C5 tb (by decide), q_neT C5 Tq (by decide), q_neT C5 Tf (by decide)⟩
  have vb : ∀ i : Nat, fx_N s1 b i = fx_N σ b i := fun i => zw_b tb S1 hm (by decide) (by decide) i
  have hrow : ∀ k : Nat, k < 64 → fx_N s1 b k = fx_N σ (N 1) k ∧ fx_N s1 b (64 + k) = fx_N σ (N 2) k ∧ fx_N s1 b (128 + k) = fx_N σ (N 3) k := fun k hk => by
    obtain ⟨⟨z1, z2, z3⟩, -⟩ := hrs k hk
    exact ⟨(vb k).trans z1.symm, (vb (64 + k)).trans z2.symm, (vb (128 + k)).trans z3.symm⟩
  obtain ⟨Q1, Q2, Q3⟩ := zn_base (N := N) (hap tN) haq hc1 hr1 hE hR rD.2 hrow (nK tN dN) nJ
  refine ⟨_, _, ⟨Q1, Q2, Q3⟩, fun w hw pO oD ho => ?_, fun z hz => ?_⟩
  · have cw : ∀ {d : Nat} {x : Nat × Nat}, τ d = some x → (∀ j : Nat, j ≤ 14 → zw_k.getD j (0, 0) ≠ x) → ∀ i : Nat, w d i = fx_N σ d i := fun hd hx i => hw _ (fun j hj => Ne.symm (zw_ne tO hd hx j hj)) i
    have hc2 : zv_hc lf bk sg1 v1 x5 x6 x7 (O 0) (O 1) (O 2) (O 3) D R w := hc1.to (fun j _ => cw Tl (zw_nx (by decide)) j) (fun d hd i => by
      rcases hd with e | e | e | e | e <;> rw [e]
      · exact cw A3 (zw_nx (by decide)) i
      · exact cw A4 (zw_nx (by decide)) i
      · exact cw A5 (zw_nx (by decide)) i
      · exact cw A6 (zw_nx (by decide)) i
      · exact cw A7 (zw_nx (by decide)) i) ⟨oD, pO 1 (by decide) (by decide), pO 2 (by decide) (by decide), pO 3 (by decide) (by decide)⟩
    exact (zn_base (N := O) (hap tO) haq hc2 hr1 hE hR rD.2 (fun k hk => by
      obtain ⟨z1, z2, z3⟩ := hrow k hk
      exact ⟨z1.trans (ho 1 k (by decide) (by decide) hk).symm, z2.trans (ho 2 k (by decide) (by decide) hk).symm, z3.trans (ho 3 k (by decide) (by decide) hk).symm⟩) (nK tO dO) nJ).1
  · have zb : ∀ i : Nat, z b i = fx_N s1 b i := hz b (q_neT tb tbo (by decide))
    have hr2 : zv_hr a2 b bq bc bf bcl bcf bch bct D R z := hr1.mv3 (fun j _ => hz a2 (q_neT T2 tbo (by decide)) j) (fun d hd i => by
      rcases hd with e | e | e | e | e <;> rw [e]
      · exact hz bc (q_neT C1 tbo (by decide)) i
      · exact hz bcl (q_neT C2 tbo (by decide)) i
      · exact hz bcf (q_neT C3 tbo (by decide)) i
      · exact hz bch (q_neT C4 tbo (by decide)) i
      · exact hz bct (q_neT C5 tbo (by decide)) i) (zb 512)
    obtain ⟨P1, P2, -⟩ := zn_base (N := N) (hap tN) haq hc1 hr2 hE hR rD.2 (fun k hk => by
      obtain ⟨z1, z2, z3⟩ := hrow k hk
      exact ⟨(zb k).trans z1, (zb (64 + k)).trans z2, (zb (128 + k)).trans z3⟩) (nK tN dN) nJ
    exact P2.as (fun i t p i0 i1 hp => Q1.eq P1 i0 i1 hp)
theorem zw_minutes {md0 : List (Nat × Nat)} (H : zw_H τ σ s1 s2 a1 a2) (S0 : q_S md0 τ σ s1) (hm0 : (zi_p1.all fun p => !(md0.contains p)) = true) (hm : (zw_m1.all fun p => !(md0.contains p)) = true) (hL : zi_L a1 a2 (fx_N σ)) (hQ : zw_Q σ a1 a2) (e1 : (r1, fx_N s1) = f_X11_minutes (fx_N σ) a1 x1.toInt) (e2 : (r2, fx_N s2) = f_X12_minutes (fx_N s1) a2 y1.toInt) (q1 : y1.toInt = x1.toInt) : r1 = r2 ∧ zw_L τ a1 a2 (fx_N s2) := by
  rw [q1] at e2
  obtain ⟨N, M, O, b, bm, bo, la, bk, bq, bf, D, hp, ⟨Tl, Tk⟩, ⟨e4, e8⟩, ⟨X, X2, Y⟩, ⟨hD, hR⟩, ⟨hP, h5, h0⟩, fin, ⟨r27, r28⟩, Tq, Tf⟩ := H.go
  have hrs := hQ.go h5 hP hp.2.2.2.1.1
  have vb : ∀ i : Nat, fx_N s1 b i = fx_N σ b i := fun i => zw_b hp.2.1.1 S0 hm (by decide) (by decide) i
  obtain ⟨A, B, ⟨Q1, Q2, Q3⟩, -, -⟩ := zw_base H.1 H.2.1.1 H.2.1.2 S0 hm0 hm hL hp hrs hD hR.1.1.1 hR.1.1.2 Tl Tk e4 e8 r27 r28 Tq Tf
  obtain ⟨w, z, m, k1, k2, f, R⟩ := zn_minutesW (x := x1.toInt) X Y hP h5 e4 h0 hR hD Q3 (fun k hk => ((hrs k hk).1.1).trans (vb k).symm) Q1 Q2
  obtain ⟨e, rfl, rfl⟩ := zw_fin e1 k1 e2 k2
  exact ⟨e, fin f R⟩
/-- a call of the class, one of the reference: what they leave of kept, trial and pointers -/
def zw_m4 : List (Nat × Nat) := [(9, 5), (9, 6), (9, 7), (6, 1), (6, 2), (6, 3), (6, 4), (6, 5), (6, 6), (6, 7), (6, 8), (6, 9), (6, 10), (6, 11), (6, 12), (6, 13), (6, 14), (10, 0), (10, 1), (10, 2), (10, 45), (100, 0), (102, 0)]
def zw_m5 : List (Nat × Nat) := [(9, 5), (9, 6), (9, 7), (9, 8), (6, 0), (6, 1), (6, 2), (6, 3), (6, 4), (6, 5), (6, 6), (6, 7), (6, 8), (6, 9), (6, 10), (6, 11), (6, 12), (6, 13), (6, 14), (6, 15), (6, 16), (6, 17), (119, 0), (120, 0), (121, 0), (122, 0), (123, 0), (210, 0), (124, 0), (125, 0), (126, 0), (127, 0), (128, 0), (10, 0), (10, 1), (10, 2)]
theorem zw_p4 : ∀ j : Nat, 1 ≤ j → j ≤ 14 → (6, j) ∈ zw_m4 := by
  intro j h1 h2
  rcases (show j = 1 ∨ j = 2 ∨ j = 3 ∨ j = 4 ∨ j = 5 ∨ j = 6 ∨ j = 7 ∨ j = 8 ∨ j = 9 ∨ j = 10 ∨ j = 11 ∨ j = 12 ∨ j = 13 ∨ j = 14 by omega) with rfl | rfl | rfl | rfl | rfl | rfl | rfl | rfl | rfl | rfl | rfl | rfl | rfl | rfl <;> decide
theorem zw_q5 : ∀ j : Nat, j ≤ 17 → (6, j) ∈ zw_m5 := by
  intro j h2
  rcases (show j = 0 ∨ j = 1 ∨ j = 2 ∨ j = 3 ∨ j = 4 ∨ j = 5 ∨ j = 6 ∨ j = 7 ∨ j = 8 ∨ j = 9 ∨ j = 10 ∨ j = 11 ∨ j = 12 ∨ j = 13 ∨ j = 14 ∨ j = 15 ∨ j = 16 ∨ j = 17 by omega) with rfl | rfl | rfl | rfl | rfl | rfl | rfl | rfl | rfl | rfl | rfl | rfl | rfl | rfl | rfl | rfl | rfl | rfl <;> decide
theorem zw_q5r : ∀ j : Nat, 4 ≤ j → j ≤ 14 → ((zw_k.getD j (0, 0)).1, 0) ∈ zw_m5 := by
  intro j h1 h2
  rcases (show j = 4 ∨ j = 5 ∨ j = 6 ∨ j = 7 ∨ j = 8 ∨ j = 9 ∨ j = 10 ∨ j = 11 ∨ j = 12 ∨ j = 13 ∨ j = 14 by omega) with rfl | rfl | rfl | rfl | rfl | rfl | rfl | rfl | rfl | rfl | rfl <;> decide
theorem zw_Rc5 (T : zw_T τ K) (S : q_S md τ s1 s2) (hm : (zw_m5.all fun p => !(md.contains p)) = true) {v w : fx_U} (h : zn_R K b D (fx_N s1) v) (hv : ∀ j : Nat, 192 ≤ j → j < 549 → w b j = v b j) : zn_R K b D (fx_N s2) w := h.mv (fun j hj => zw_f T S hm (zw_q5 j hj)) (fun j h4 hj i => zw_r T S hm h4 hj zw_q5r i) hv
/-- what is wanted at the end, from both roads as they stand then -/
theorem zw_end (T1 : τ a1 = some (9, 1)) (T2 : τ a2 = some (10, 1)) (S1 : q_S md1 τ σ s1) (hm1 : (zw_m4.all fun p => !(md1.contains p)) = true) (S2 : q_S md2 τ s1 s2) (hm2 : (zw_m5.all fun p => !(md2.contains p)) = true) (h : zw_P τ a1 a2 N M O b bm bo (fx_N σ)) (hk2 : fx_N s2 a1 8 = fx_N s2 a2 45) {D1 D2 : Int} (R1 : zn_R N b D1 (fx_N s1) (fx_N s2)) (R2 : fx_N s2 a1 8 = 0 ∨ zn_R M bm D2 (fx_N s1) (fx_N s2)) : zw_L τ a1 a2 (fx_N s2) := by
  obtain ⟨⟨⟨tN, tM, tO⟩, dd, ap⟩, ⟨tb, tbo, tbm⟩, ⟨h5, h6, h7⟩, ⟨g0, g1, g2⟩, ⟨pN, pM, pO⟩, -, -, -⟩ := h
  have o1 : ∀ j : Nat, (9, j) ∈ zw_m4 → (9, j) ∈ zw_m5 → fx_N s2 a1 j = fx_N σ a1 j := fun j j1 j2 => (zi_o S2 hm2 T1 (by decide) j2).trans (zi_o S1 hm1 T1 (by decide) j1)
  have o2 : ∀ j : Nat, (10, j) ∈ zw_m4 → (10, j) ∈ zw_m5 → fx_N s2 a2 j = fx_N σ a2 j := fun j j1 j2 => (zi_o S2 hm2 T2 (by decide) j2).trans (zi_o S1 hm1 T2 (by decide) j1)
  have pf : ∀ {K : Nat → Nat}, zw_T τ K → zn_P K (fx_N σ) → zn_P K (fx_N s2) := fun t p => zw_Pf t (zw_Pf t p S1 hm1 zw_p4) S2 hm2 (fun j _ hj => zw_q5 j (by omega))
  refine ⟨N, M, O, b, bm, bo, ⟨⟨tN, tM, tO⟩, dd, ap⟩, ⟨tb, tbo, tbm⟩, ⟨(o1 5 (by decide) (by decide)).trans h5, (o1 6 (by decide) (by decide)).trans h6, (o1 7 (by decide) (by decide)).trans h7⟩, ⟨(o2 0 (by decide) (by decide)).trans g0, (o2 1 (by decide) (by decide)).trans g1, (o2 2 (by decide) (by decide)).trans g2⟩, ⟨pf tN pN, pf tM pM, pf tO pO⟩, hk2, ?_, ?_⟩
  · have k := zw_Rc5 tN S2 hm2 R1 (fun j _ _ => rfl)
    rw [k.D]
    exact k
  · rcases R2 with e | e
    · exact Or.inl e
    · have k := zw_Rc5 tM S2 hm2 e (fun j _ _ => rfl)
      refine Or.inr ?_
      rw [k.D]
      exact k
theorem zw_keep (hI : q_I τ σ) (T1 : τ a1 = some (9, 1)) (T2 : τ a2 = some (10, 1)) (S1 : q_S md1 τ σ s1) (hm1 : (zw_m4.all fun p => !(md1.contains p)) = true) (S2 : q_S md2 τ s1 s2) (hm2 : (zw_m5.all fun p => !(md2.contains p)) = true) (h : zw_L τ a1 a2 (fx_N σ)) (k8 : s2 a1 8 = .int 1) (k45 : s2 a2 45 = .int 1) (e1 : (r1, fx_N s1) = f_X11_keep (fx_N σ) a1) (e2 : (r2, fx_N s2) = f_X12_keep (fx_N s1) a2) : r1 = r2 ∧ zw_L τ a1 a2 (fx_N s2) := by
  obtain ⟨N, M, O, b, bm, bo, h⟩ := h
  have hp := h
  obtain ⟨⟨⟨tN, tM, tO⟩, ⟨dN, dM, dO⟩, apM, apO, apMO⟩, ⟨tb, tbo, tbm⟩, ⟨h5, h6, h7⟩, ⟨g0, g1, g2⟩, ⟨pN, pM, pO⟩, hk, hR, hK⟩ := h
  have vb : ∀ i : Nat, fx_N s1 b i = fx_N σ b i := fun i => zw_b tb S1 hm1 (by decide) (by decide) i
  have hR1 : zn_R N b (fx_N σ (N 0) 0) (fx_N σ) (fx_N s1) := hR.mv (fun _ _ => rfl) (fun _ _ _ _ => rfl) (fun j _ _ => vb j)
  obtain ⟨x, d1, d2⟩ := (hI (N 0) 6 1 (tN 0 (by decide)) 0 (by decide)).int (lo := 8) (hi := 64) rfl
  have hD : fx_N σ (N 0) 0 ≤ 64 := by
    rw [zz_N d1]
    exact d2.2
  obtain ⟨w, z, m, k1, k2, R, Rk⟩ := zn_keepW (a1 := a1) (a2 := a2) ⟨dM, apM⟩ pN pM h5 h6 (fun j hj => ⟨Ne.symm (zw_ne tM T1 (zw_nx (by decide)) j hj), Ne.symm (zw_ne tN T1 (zw_nx (by decide)) j hj)⟩) ((zi_o S1 hm1 T2 (by decide) (by decide)).trans g0) ((zi_o S1 hm1 T2 (by decide) (by decide)).trans g2) ⟨q_neT tb tbm (by decide), q_neT T2 tb (by decide), q_neT T2 tbm (by decide)⟩ hR1 hD
  obtain ⟨e, rfl, rfl⟩ := zw_fin e1 k1 e2 k2
  exact ⟨e, zw_end T1 T2 S1 hm1 S2 hm2 hp ((zz_N k8).trans (zz_N k45).symm) R (Or.inr Rk)⟩
theorem zw_undo (hI : q_I τ σ) (T1 : τ a1 = some (9, 1)) (T2 : τ a2 = some (10, 1)) (S1 : q_S md1 τ σ s1) (hm1 : (zw_m1.all fun p => !(md1.contains p)) = true) (S2 : q_S md2 τ s1 s2) (hm2 : (zw_m2.all fun p => !(md2.contains p)) = true) (h : zw_L τ a1 a2 (fx_N σ)) (e1 : (r1, fx_N s1) = f_X11_undo (fx_N σ) a1) (e2 : (r2, fx_N s2) = f_X12_undo (fx_N s1) a2) : r1 = r2 ∧ zw_L τ a1 a2 (fx_N s2) := by
  obtain ⟨N, M, O, b, bm, bo, h⟩ := h
  have hp := h
  obtain ⟨⟨⟨tN, tM, tO⟩, ⟨dN, dM, dO⟩, apM, apO, apMO⟩, ⟨tb, tbo, tbm⟩, ⟨h5, h6, h7⟩, ⟨g0, g1, g2⟩, ⟨pN, pM, pO⟩, hk, hR, hK⟩ := h
  have vb : ∀ i : Nat, fx_N s1 b i = fx_N σ b i := fun i => zw_b tb S1 hm1 (by decide) (by decide) i
  have vm : ∀ i : Nat, fx_N s1 bm i = fx_N σ bm i := fun i => zw_b tbm S1 hm1 (by decide) (by decide) i
  have hm4 : (zw_m4.all fun p => !(md1.contains p)) = true := zw_sub (by decide) hm1
  have hm5 : (zw_m5.all fun p => !(md2.contains p)) = true := zw_sub (by decide) hm2
  have k45 : fx_N s1 a2 45 = fx_N σ a2 45 := zi_o S1 hm1 T2 (by decide) (by decide)
  have f8 : fx_N s2 a1 8 = fx_N σ a1 8 := (zi_o S2 hm2 T1 (by decide) (by decide)).trans (zi_o S1 hm1 T1 (by decide) (by decide))
  have f45 : fx_N s2 a2 45 = fx_N σ a2 45 := (zi_o S2 hm2 T2 (by decide) (by decide)).trans k45
  have b64 : ∀ {K : Nat → Nat}, zw_T τ K → fx_N σ (K 0) 0 ≤ 64 := fun t => by
    obtain ⟨x, d1, d2⟩ := (hI _ 6 1 (t 0 (by decide)) 0 (by decide)).int (lo := 8) (hi := 64) rfl
    rw [zz_N d1]
    exact d2.2
  have hR1 : zn_R N b (fx_N σ (N 0) 0) (fx_N σ) (fx_N s1) := hR.mv (fun _ _ => rfl) (fun _ _ _ _ => rfl) (fun j _ _ => vb j)
  have h0 : fx_N s1 a2 0 = (b : Int) := (zi_o S1 hm1 T2 (by decide) (by decide)).trans g0
  have h2 : fx_N s1 a2 2 = (bm : Int) := (zi_o S1 hm1 T2 (by decide) (by decide)).trans g2
  by_cases c : fx_N σ a1 8 = 0
  · obtain ⟨w, z, m, k1, k2, R, -⟩ := zn_undoW (D := fx_N σ (N 0) 0) ⟨dN, apM.sy⟩ pN pM h5 h6 rfl rfl (hk.trans k45.symm) h0 h2 (q_neT tbm tb (by decide)) (fun _ => hR1) (fun q => absurd c q) (b64 tN)
    obtain ⟨e, rfl, rfl⟩ := zw_fin e1 k1 e2 k2
    exact ⟨e, zw_end (D2 := 0) T1 T2 S1 hm4 S2 hm5 hp (by rw [f8, f45]; exact hk) R (Or.inl (f8.trans c))⟩
  · have hK1 : zn_R M bm (fx_N σ (M 0) 0) (fx_N σ) (fx_N s1) := (hK.resolve_left c).mv (fun _ _ => rfl) (fun _ _ _ _ => rfl) (fun j _ _ => vm j)
    obtain ⟨w, z, m, k1, k2, R, Rk⟩ := zn_undoW (D := fx_N σ (M 0) 0) ⟨dN, apM.sy⟩ pN pM h5 h6 rfl rfl (hk.trans k45.symm) h0 h2 (q_neT tbm tb (by decide)) (fun q => absurd q c) (fun _ => hK1) (b64 tM)
    obtain ⟨e, rfl, rfl⟩ := zw_fin e1 k1 e2 k2
    exact ⟨e, zw_end T1 T2 S1 hm4 S2 hm5 hp (by rw [f8, f45]; exact hk) R (Or.inr (Rk c))⟩
theorem zw_tried (H : zw_H τ σ s1 s2 a1 a2) {md0 md3 : List (Nat × Nat)} (S0 : q_S md0 τ σ s1) (hm0 : (zi_p1.all fun p => !(md0.contains p)) = true) (hm : (zw_m1.all fun p => !(md0.contains p)) = true) (S3 : q_S md3 τ s1 s2) (hm3 : (zw_m2.all fun p => !(md3.contains p)) = true) (hL : zi_L a1 a2 (fx_N σ)) (hQ : zw_Q σ a1 a2) (e1 : (r1, fx_N s1) = f_X11_tried (fx_N σ) a1 x1.toInt x2.toInt) (e2 : (r2, fx_N s2) = f_X12_tried (fx_N s1) a2 y1.toInt y2.toInt) (q1 : y1.toInt = x1.toInt) (q2 : y2.toInt = x2.toInt) : r1 = r2 ∧ zw_L τ a1 a2 (fx_N s2) := by
  rw [q1, q2] at e2
  obtain ⟨N, M, O, b, bm, bo, la, bk, bq, bf, D, hp, ⟨Tl, Tk⟩, ⟨e4, e8⟩, ⟨X, X2, Y⟩, ⟨hD, hR⟩, ⟨hP, h5, h0⟩, fin, ⟨r27, r28⟩, Tq, Tf⟩ := H.go
  have T1 := H.2.1.1
  have T2 := H.2.1.2
  have hrs := hQ.go h5 hP hp.2.2.2.1.1
  have vb : ∀ i : Nat, fx_N s1 b i = fx_N σ b i := fun i => zw_b hp.2.1.1 S0 hm (by decide) (by decide) i
  obtain ⟨A, B, ⟨Q1, Q2, Q3⟩, QO, QZ⟩ := zw_base H.1 T1 T2 S0 hm0 hm hL hp hrs hD hR.1.1.1 hR.1.1.2 Tl Tk e4 e8 r27 r28 Tq Tf
  obtain ⟨⟨⟨tN, tM, tO⟩, ⟨dN, dM, dO⟩, apM, apO, apMO⟩, ⟨tb, tbo, tbm⟩, ⟨-, h6, h7⟩, ⟨g0, g1, g2⟩, ⟨-, pM, pO⟩, hk, hR0, hK⟩ := id hp
  obtain ⟨w, z, m, k1, k2, f, R⟩ := zn_triedW (x1 := x1.toInt) (x2 := x2.toInt) (zw_X tO dO Tl Tk) Y ⟨dO, apO⟩ hP pO h5 h7 e4 (fun j hj => Ne.symm (zw_ne tO T1 (zw_nx (by decide)) j hj)) h0 ((zi_o S0 hm T2 (by decide) (by decide)).trans g1) ⟨⟨q_neT tb tbo (by decide), q_neT tbo tb (by decide)⟩, ⟨q_neT T2 tbo (by decide), q_neT tbo T2 (by decide)⟩, q_neT tbo Tq (by decide), q_neT tbo Tf (by decide)⟩ hR hD Q3 (fun k hk => ((hrs k hk).1.1).trans (vb k).symm) (fun w a b c d => QO w a b (c.trans hR.1.1.1) d) QZ
  obtain ⟨e, rfl, rfl⟩ := zw_fin e1 k1 e2 k2
  refine ⟨e, zw_end T1 T2 S0 (zw_sub (by decide) hm) S3 (zw_sub (by decide) hm3) hp ?_ (D1 := D) (D2 := fx_N σ (M 0) 0) ?_ ?_⟩
  · have a : fx_N s2 a1 8 = fx_N σ a1 8 := (zi_o S3 hm3 T1 (by decide) (by decide)).trans (zi_o S0 hm T1 (by decide) (by decide))
    have c : fx_N s2 a2 45 = fx_N σ a2 45 := (zi_o S3 hm3 T2 (by decide) (by decide)).trans (zi_o S0 hm T2 (by decide) (by decide))
    rw [a, c]
    exact hk
  · exact hR.mv (fun j _ => f (N 0) (X.2.1 0 (by decide)).1 (X.2.1 0 (by decide)).2 (fun k hk => apO 0 k (by decide) hk) j) (fun j _ hj i => f (N j) (X.2.1 j hj).1 (X.2.1 j hj).2 (fun k hk => apO j k hj hk) i) (fun j _ hj => R j hj)
  · have a : fx_N s2 a1 8 = fx_N σ a1 8 := (zi_o S3 hm3 T1 (by decide) (by decide)).trans (zi_o S0 hm T1 (by decide) (by decide))
    rw [a]
    rcases hK with q | q
    · exact Or.inl q
    · have nl := zw_X tM dM Tl Tk
      exact Or.inr (q.mv (fun j _ => f (M 0) (nl.2.1 0 (by decide)).1 (nl.2.1 0 (by decide)).2 (fun k hk => apMO 0 k (by decide) hk) j) (fun j _ hj i => f (M j) (nl.2.1 j hj).1 (nl.2.1 j hj).2 (fun k hk => apMO j k hj hk) i) (fun j _ _ => (zw_b tbm S3 hm3 (by decide) (by decide) j).trans (zw_b tbm S0 hm (by decide) (by decide) j)))
/-- over row: the reference writes its rows alone -/
theorem zw_row (T1 : τ a1 = some (9, 1)) (T2 : τ a2 = some (10, 1)) (S1 : q_S md1 τ σ s1) (hm1 : (zw_m3.all fun p => !(md1.contains p)) = true) (S2 : q_S md2 τ s1 s2) (hm2 : (zw_m2.all fun p => !(md2.contains p)) = true) (h : zw_L τ a1 a2 (fx_N σ)) {bn : Nat} (hbn : s1 a2 0 = .ref bn) (kb : ∀ j : Nat, 192 ≤ j → fx_N s2 bn j = fx_N s1 bn j) : zw_L τ a1 a2 (fx_N s2) := by
  have h1 := zw_L.C T1 T2 S1 hm1 h
  obtain ⟨N, M, O, b, bm, bo, h⟩ := h1
  have hp := h
  obtain ⟨⟨⟨tN, tM, tO⟩, ⟨dN, dM, dO⟩, apM, apO, apMO⟩, ⟨tb, tbo, tbm⟩, ⟨h5, h6, h7⟩, ⟨g0, g1, g2⟩, ⟨pN, pM, pO⟩, hk, hR, hK⟩ := h
  have eb : bn = b := zw_cast (zz_NR hbn) g0
  subst eb
  have z0 : q_S ([] : List (Nat × Nat)) τ s1 s1 := ⟨S1.1, fun _ _ _ _ _ _ => rfl⟩
  refine zw_end T1 T2 z0 (by decide) S2 (zw_sub (by decide) hm2) hp ?_ (D1 := fx_N s1 (N 0) 0) (D2 := fx_N s1 (M 0) 0) ?_ ?_
  · rw [zi_o S2 hm2 T1 (by decide) (by decide), zi_o S2 hm2 T2 (by decide) (by decide)]
    exact hk
  · exact hR.mv (fun _ _ => rfl) (fun _ _ _ _ => rfl) (fun j j1 _ => kb j j1)
  · rw [zi_o S2 hm2 T1 (by decide) (by decide)]
    rcases hK with q | q
    · exact Or.inl q
    · exact Or.inr (q.mv (fun _ _ => rfl) (fun _ _ _ _ => rfl) (fun j _ _ => zw_b tbm S2 hm2 (by decide) (by decide) j))
end NightLoop
theorem zz_who2 {τ : q_T} {σ s1 : q_V} {a1 a2 : Nat} {r1 r2 : Int} {x1 y1 : Int32} {md1 : List (Nat × Nat)} (hI : q_I τ σ) (T1 : τ a1 = some (9, 1)) (T2 : τ a2 = some (10, 1)) (S1 : q_S md1 τ σ s1) (hm : (zw_m1.all fun p => !(md1.contains p)) = true) (hN : zw_L τ a1 a2 (fx_N σ)) (e1 : (r1, fx_N s1) = f_X11_who (fx_N σ) a1 x1.toInt) (e2 : r2 = f_X12_who (fx_N s1) a2 y1.toInt) (q1 : y1.toInt = x1.toInt) : r1 = r2 := by
  rw [q1] at e2
  obtain ⟨N, M, O, b, bm, bo, ⟨⟨tN, -, -⟩, -⟩, ⟨tb, -, -⟩, ⟨h5, -, -⟩, ⟨g0, -, -⟩, ⟨pN, -, -⟩, -, hR, -⟩ := hN
  obtain ⟨dr, e11, Td⟩ := (hI a1 9 1 T1 11 (by decide)).ref (k := 0) (n := 1) rfl
  obtain ⟨x, d1, d2⟩ := (hI (N 0) 6 1 (tN 0 (by decide)) 0 (by decide)).int (lo := 8) (hi := 64) rfl
  have hD : 8 ≤ fx_N σ (N 0) 0 ∧ fx_N σ (N 0) 0 ≤ 64 := by
    rw [zz_N d1]
    exact d2
  have vb : ∀ i : Nat, fx_N s1 b i = fx_N σ b i := fun i => zw_b tb S1 hm (by decide) (by decide) i
  have hR1 : zn_R N b (fx_N σ (N 0) 0) (fx_N σ) (fx_N s1) := hR.mv (fun _ _ => rfl) (fun _ _ _ _ => rfl) (fun j _ _ => vb j)
  have k := zy_who (x1 := x1.toInt) (T := fx_N σ (N 0) 17) ⟨pN, (zi_o S1 hm T2 (by decide) (by decide)).trans g0, hR1, hD, rfl⟩ (zw_ne tN Td (zw_nx (by decide))) h5 (zz_NR e11)
  rw [← e1, ← e2] at k
  exact k

set_option maxRecDepth 100000 in
set_option maxHeartbeats 40000000 in
theorem t_L_law {X : q_X} {b L : Nat} {xs : Nat → Int32} (τ : q_T) (σ : q_V) (a1 a2 : Nat) (hI : q_I τ σ) (tA1 : τ a1 = some (9, 1)) (tA2 : τ a2 = some (10, 1)) (hW : q_wf σ a2) (hK : q_kp τ σ a2) (hKA : σ a1 8 = .int 0) (hKB : σ a2 45 = .int 0) (br bk bt bn bm : Nat) (hbr : σ a1 5 = .ref br) (hbk : σ a1 6 = .ref bk) (hbt : σ a1 7 = .ref bt) (hbn : σ a2 0 = .ref bn) (hbm : σ a2 2 = .ref bm) (ne1 : br ≠ bk) (ne2 : bt ≠ br) (ne3 : bt ≠ bk) (hTA : σ a1 1 = .int 0) (hTB : σ a2 4 = .int 0) (hDA : σ br 0 = .int 16) (hDB : σ bn 512 = .int 16) (ta tb : Nat) (hta : σ a1 0 = .ref ta) (htb : σ a2 3 = .ref tb) (c0 c1 c2 e0 e1 e2 t0 t1 t2 : Nat) (hc3 : σ br 1 = .ref c0 ∧ σ br 2 = .ref c1 ∧ σ br 3 = .ref c2) (he3 : σ bk 1 = .ref e0 ∧ σ bk 2 = .ref e1 ∧ σ bk 3 = .ref e2) (ht3 : σ bt 1 = .ref t0 ∧ σ bt 2 = .ref t1 ∧ σ bt 3 = .ref t2) (ap1 : zz_a6 c0 c1 c2 e0 e1 e2) (ap2 : zz_a6 c0 c1 c2 t0 t1 t2) (ap3 : zz_a6 e0 e1 e2 t0 t1 t2) (hRA : zz_rz σ c0 c1 c2 64) (hRB : zz_qz σ bn 64) (hLW : zi_L a1 a2 (fx_N σ)) (hNW : zw_L τ a1 a2 (fx_N σ)) (hXs : q_xs X b L xs) (hbl : q_bl X b) (hbA : q_ba X b) (hL : L ≤ 3072) (hG : q_G X cL_law "WhiteLineLaw" 4 (some .boolean) 2048 84000 600000 7302250) (kk : ∀ (σ1 : q_V) (lv : List (Nat × Value)), q_O X 118 11908 τ σ1 1454 lv [.int 1]) : q_O X 118 11908 τ σ 16 [(0, .ref b), (1, .ref a1), (2, .ref a2)] [] := by
  have hS0 : q_S md_L_law τ σ σ := q_S.rf hI
  have Tta : τ ta = some (110, 260) := zz_ref hI tA1 (j := 0) (by decide) hta rfl
  have Ttb : τ tb = some (310, 260) := zz_ref hI tA2 (j := 3) (by decide) htb rfl
  have Tbr : τ br = some (6, 1) := zz_ref hI tA1 (j := 5) (by decide) hbr rfl
  have Tbk : τ bk = some (6, 1) := zz_ref hI tA1 (j := 6) (by decide) hbk rfl
  have Tbt : τ bt = some (6, 1) := zz_ref hI tA1 (j := 7) (by decide) hbt rfl
  have Tbn : τ bn = some (100, 549) := zz_ref hI tA2 (j := 0) (by decide) hbn rfl
  have Tbm : τ bm = some (102, 549) := zz_ref hI tA2 (j := 2) (by decide) hbm rfl
  have Tc0 : τ c0 = some (118, 64) := zz_ref hI Tbr (j := 1) (by decide) hc3.1 rfl
  have Tc1 : τ c1 = some (118, 64) := zz_ref hI Tbr (j := 2) (by decide) hc3.2.1 rfl
  have Tc2 : τ c2 = some (118, 64) := zz_ref hI Tbr (j := 3) (by decide) hc3.2.2 rfl
  have Te0 : τ e0 = some (118, 64) := zz_ref hI Tbk (j := 1) (by decide) he3.1 rfl
  have Te1 : τ e1 = some (118, 64) := zz_ref hI Tbk (j := 2) (by decide) he3.2.1 rfl
  have Te2 : τ e2 = some (118, 64) := zz_ref hI Tbk (j := 3) (by decide) he3.2.2 rfl
  have Tt0 : τ t0 = some (118, 64) := zz_ref hI Tbt (j := 1) (by decide) ht3.1 rfl
  have Tt1 : τ t1 = some (118, 64) := zz_ref hI Tbt (j := 2) (by decide) ht3.2.1 rfl
  have Tt2 : τ t2 = some (118, 64) := zz_ref hI Tbt (j := 3) (by decide) ht3.2.2 rfl
  obtain ⟨EA0, hEA, rEA0⟩ := (hI bk 6 1 Tbk 0 (by decide)).int ff_6_0
  obtain ⟨EB0, hEB, -⟩ := (hI bm 102 549 Tbm (512 : Int32).toInt.toNat (by decide)).int (ai_102.2.2 _)
  have hDB2 : σ bn (512 : Int32).toInt.toNat = .int 16 := hDB
  refine q_iconst (pc := 16) hG dL_law_16 ki_0 ?_
  refine q_istore_n (pc := 17) [(3, .int 0), (0, .ref b), (1, .ref a1), (2, .ref a2)] hG dL_law_17 (by decide) rfl ?_
  have J18 : ∀ (n18 : Nat) (p18_3 : Int32) (σ18 : q_V) (KA18 : Int32) (KB18 : Int32) (DA18 : Int32) (DB18 : Int32) (EA18 : Int32) (EB18 : Int32) (TA18 : Int32) (TB18 : Int32), (q_r p18_3 0 3072) → (q_S md_L_law τ σ σ18) → (σ18 a1 8 = .int KA18 ∧ q_r KA18 0 1) → (σ18 a2 45 = .int KB18 ∧ q_r KB18 0 1) → (KA18.toInt = KB18.toInt) → (σ18 br 0 = .int DA18 ∧ q_r DA18 8 64) → (σ18 bn ((512 : Int32).toInt.toNat) = .int DB18 ∧ q_r DB18 8 64) → (σ18 bk 0 = .int EA18 ∧ q_r EA18 8 64) → (σ18 bm ((512 : Int32).toInt.toNat) = .int EB18 ∧ q_r EB18 (-2147483648) 2147483647) → (σ18 a1 1 = .int TA18 ∧ q_r TA18 0 260) → (σ18 a2 4 = .int TB18 ∧ q_r TB18 0 260) → (DA18.toInt = DB18.toInt) → (TA18.toInt = TB18.toInt) → (KA18.toInt = 0 ∨ EA18.toInt = EB18.toInt) → (zz_tc (fx_N σ18) (fx_N σ18) ta tb TB18.toInt) → (zz_rs (fx_N σ18) c0 c1 c2 bn) → (zi_L a1 a2 (fx_N σ18)) → (zw_L τ a1 a2 (fx_N σ18)) → (KA18.toInt = 0 ∨ zz_rs (fx_N σ18) e0 e1 e2 bm) → (q_wf σ18 a2 ∧ q_kp τ σ18 a2) → ((3072 - p18_3.toInt).toNat < n18) → q_O X 118 11908 τ σ18 18 [(0, .ref b), (1, .ref a1), (2, .ref a2), (3, .int p18_3)] [] := by
    intro n18
    induction n18 with
    | zero => intro p18_3 σ18 KA18 KB18 DA18 DB18 EA18 EB18 TA18 TB18 r18_3 hS18 iKA18 iKB18 iKR18 iDA18 iDB18 iEA18 iEB18 iTA18 iTB18 iDR18 iTR18 iER18 iTC18 iRA18 iLW18 iNW18 iRE18 iV18 hm18; exact absurd hm18 (Nat.not_lt_zero _)
    | succ n18 ih18 =>
      intro p18_3 σ18 KA18 KB18 DA18 DB18 EA18 EB18 TA18 TB18 r18_3 hS18 iKA18 iKB18 iKR18 iDA18 iDB18 iEA18 iEB18 iTA18 iTB18 iDR18 iTR18 iER18 iTC18 iRA18 iLW18 iNW18 iRE18 iV18 hm18
      refine q_iload_n (pc := 18) hG dL_law_18 3 rfl ?_
      refine q_aload_n (pc := 19) hG dL_law_19 0 rfl ?_
      refine q_slen (pc := 20) hG hXs hbl hbA hL dL_law_20 (fun v20 e20 g20 => ?_)
      refine q_bipush (pc := 21) hG dL_law_21 kb_6 ?_
      refine q_isub (pc := 23) hG dL_law_23 (fun v23 e23 => ?_)
      refine q_icmp_gt (pc := 24) hG 1453 dL_law_24 rfl ?_ ?_
      · intro c24
        have r_1 := (q_subN (lo := (-6)) (hi := 3066) e23 g20 rl_6 (by decide)).2
        refine q_iconst (pc := 1453) hG dL_law_1453 ki_1 ?_
        exact kk _ _
      intro c24
      have r_2 := (q_subN (lo := (-6)) (hi := 3066) e23 g20 rl_6 (by decide)).2
      refine q_aload_n (pc := 27) hG dL_law_27 0 rfl ?_
      refine q_iload_n (pc := 28) hG dL_law_28 3 rfl ?_
      have r_3 := q_rle r18_3 r_2 c24
      have r_4 := q_rge r_2 r18_3 c24
      refine q_sld (pc := 29) hG hXs hbl hbA (by have o0 := e20; have o1 := (q_subN (lo := (-6)) (hi := 3066) e23 g20 rl_6 (by decide)).1; have o2 := c24; have o3 := r_3; have o4 := g20; have o5 := r_4; have l6 := tl_6; unfold q_r at o3 o4 o5; omega) dL_law_29 (fun v29 e29 => ?_)
      refine q_bipush (pc := 30) hG dL_law_30 kb_63 ?_
      refine q_iand (pc := 32) hG dL_law_32 (fun v32 e32 => ?_)
      have J1447 : ∀ (σ1447 : q_V) (KA1447 : Int32) (KB1447 : Int32) (DA1447 : Int32) (DB1447 : Int32) (EA1447 : Int32) (EB1447 : Int32) (TA1447 : Int32) (TB1447 : Int32), (q_S md_L_law τ σ σ1447) → (σ1447 a1 8 = .int KA1447 ∧ q_r KA1447 0 1) → (σ1447 a2 45 = .int KB1447 ∧ q_r KB1447 0 1) → (KA1447.toInt = KB1447.toInt) → (σ1447 br 0 = .int DA1447 ∧ q_r DA1447 8 64) → (σ1447 bn ((512 : Int32).toInt.toNat) = .int DB1447 ∧ q_r DB1447 8 64) → (σ1447 bk 0 = .int EA1447 ∧ q_r EA1447 8 64) → (σ1447 bm ((512 : Int32).toInt.toNat) = .int EB1447 ∧ q_r EB1447 (-2147483648) 2147483647) → (σ1447 a1 1 = .int TA1447 ∧ q_r TA1447 0 260) → (σ1447 a2 4 = .int TB1447 ∧ q_r TB1447 0 260) → (DA1447.toInt = DB1447.toInt) → (TA1447.toInt = TB1447.toInt) → (KA1447.toInt = 0 ∨ EA1447.toInt = EB1447.toInt) → (zz_tc (fx_N σ1447) (fx_N σ1447) ta tb TB1447.toInt) → (zz_rs (fx_N σ1447) c0 c1 c2 bn) → (zi_L a1 a2 (fx_N σ1447)) → (zw_L τ a1 a2 (fx_N σ1447)) → (KA1447.toInt = 0 ∨ zz_rs (fx_N σ1447) e0 e1 e2 bm) → (q_wf σ1447 a2 ∧ q_kp τ σ1447 a2) → q_O X 118 11908 τ σ1447 1447 [(0, .ref b), (1, .ref a1), (2, .ref a2), (3, .int p18_3)] [] := by
        intro σ1447 KA1447 KB1447 DA1447 DB1447 EA1447 EB1447 TA1447 TB1447 hS1447 iKA1447 iKB1447 iKR1447 iDA1447 iDB1447 iEA1447 iEB1447 iTA1447 iTB1447 iDR1447 iTR1447 iER1447 iTC1447 iRA1447 iLW1447 iNW1447 iRE1447 iV1447
        obtain ⟨v1447, e1447⟩ : ∃ z : Int32, z = p18_3 + Int32.ofInt 6 := ⟨_, rfl⟩
        have h1447 := q_incN (lo := 6) (hi := 3072) r_3 (by decide) (by decide) e1447
        refine q_iinc (pc := 1447) [(3, .int v1447), (0, .ref b), (1, .ref a1), (2, .ref a2)] hG dL_law_1447 3 rfl e1447 (by decide) rfl ?_
        refine q_goto (pc := 1450) 18 hG dL_law_1450 rfl ?_
        refine q_lv [1, 2, 3, 0] rfl ?_
        exact ih18 v1447 σ1447 KA1447 KB1447 DA1447 DB1447 EA1447 EB1447 TA1447 TB1447 (q_r.mono h1447.2 (by decide)) hS1447 ⟨iKA1447.1, iKA1447.2⟩ ⟨iKB1447.1, iKB1447.2⟩ (by have o0 := iKR1447; have o1 := iER1447; have o2 := iEA1447.2; have o3 := iEB1447.2; have o4 := iKA1447.2; have o5 := iKB1447.2; unfold q_r at o2 o3 o4 o5; omega) ⟨iDA1447.1, iDA1447.2⟩ ⟨iDB1447.1, iDB1447.2⟩ ⟨iEA1447.1, iEA1447.2⟩ ⟨iEB1447.1, iEB1447.2⟩ ⟨iTA1447.1, iTA1447.2⟩ ⟨iTB1447.1, iTB1447.2⟩ (by have o0 := iDR1447; have o1 := iDA1447.2; have o2 := iDB1447.2; unfold q_r at o1 o2; omega) (by have o0 := iTR1447; have o1 := iTA1447.2; have o2 := iTB1447.2; unfold q_r at o1 o2; omega) (by have o0 := iKR1447; have o1 := iER1447; have o2 := iEA1447.2; have o3 := iEB1447.2; have o4 := iKA1447.2; have o5 := iKB1447.2; unfold q_r at o2 o3 o4 o5; omega) iTC1447 iRA1447 iLW1447 iNW1447 iRE1447 ⟨iV1447.1, iV1447.2⟩ (q_measU hm18 (by have o0 := c24; have o1 := h1447.1; have o2 := (q_subN (lo := (-6)) (hi := 3066) e23 g20 rl_6 (by decide)).1; have o3 := e20; have o4 := r_3; have o5 := h1447.2; have o6 := g20; have o7 := r_4; have l8 := tl_6; unfold q_r at o4 o5 o6 o7; omega) (h1447.2).2)
      by_cases z33_0 : v32.toInt = 0
      · skip
        refine q_tsIn (pc := 33) 0 188 hG dL_law_33 z33_0 (by decide) rfl rfl ?_
        refine q_aload_n (pc := 188) hG dL_law_188 1 rfl ?_
        refine q_aload_n (pc := 189) hG dL_law_189 0 rfl ?_
        refine q_iload_n (pc := 190) hG dL_law_190 3 rfl ?_
        refine q_iconst (pc := 191) hG dL_law_191 ki_1 ?_
        refine q_iadd (pc := 192) hG dL_law_192 (fun v192 e192 => ?_)
        have r_5 := (q_addN (lo := 1) (hi := 3067) e192 r_3 rl_1 (by decide)).2
        refine q_sld (pc := 193) hG hXs hbl hbA (by have o0 := e20; have o1 := (q_subN (lo := (-6)) (hi := 3066) e23 g20 rl_6 (by decide)).1; have o2 := c24; have o3 := (q_addN (lo := 1) (hi := 3067) e192 r_3 rl_1 (by decide)).1; have o4 := r_3; have o5 := r_5; have o6 := g20; have o7 := r_4; have l8 := tl_1; have l9 := tl_6; unfold q_r at o4 o5 o6 o7; omega) dL_law_193 (fun v193 e193 => ?_)
        refine q_cVi (pc := 194) [.int v193] [] hG (c_X11_road τ σ18 a1 v193 hS18.1 tA1) my_X11_road mv_X11_road w233 dL_law_194 tA1 (by decide) rfl rfl (Nat.le_of_ble_eq_true rfl) (by decide) (fun v194 s194 p194 => ?_)
        have w194 := hS18.trans p194.1 rfl
        obtain ⟨q_6v, q_6f, q_6r⟩ := (w194.1 br 6 1 Tbr 0 (by decide)).int ff_6_0
        have hv_7 : v194.toInt = 1 → q_6v.toInt = v193.toInt := fun q => (zz_eqI q_6f ((p194.2.2.2.2.1 br (hS18.same tA1 rfl hbr)).1 q))
        have hv_8 : v194.toInt = 0 → q_6v.toInt = DA18.toInt := fun q => (zz_eqI q_6f (((p194.2.2.2.2.1 br (hS18.same tA1 rfl hbr)).2.1 q).trans iDA18.1))
        have rx_9 := zz_rxof (p194.2.2.2.2.2 br c0 c1 c2 (hS18.same tA1 rfl hbr) (hS18.same Tbr rfl hc3.1) (hS18.same Tbr rfl hc3.2.1) (hS18.same Tbr rfl hc3.2.2)) (by have o0 := p194.2.2.2.1; have o1 := hv_7; have o2 := hv_8; have o3 := iDR18; have o4 := iDA18.2; have o5 := iDB18.2; have o6 := q_6r; have o7 := p194.2.1; unfold q_r at o4 o5 o6 o7; omega)
        have re_10 : KA18.toInt = 0 ∨ zz_rs (fx_N s194) e0 e1 e2 bm := Or.imp id (fun z => zz_rs.O z rx_9 Te0 Te1 Te2 ap1.n1 (fun j _ => p194.1.2.arr Tbm (by decide) rfl)) iRE18
        refine q_pop (pc := 197) hG dL_law_197 rfl ?_
        refine q_aload_n (pc := 198) hG dL_law_198 2 rfl ?_
        refine q_aload_n (pc := 199) hG dL_law_199 0 rfl ?_
        refine q_iload_n (pc := 200) hG dL_law_200 3 rfl ?_
        refine q_iconst (pc := 201) hG dL_law_201 ki_1 ?_
        refine q_iadd (pc := 202) hG dL_law_202 (fun v202 e202 => ?_)
        rw [e202.trans e192.symm]
        refine q_sld (pc := 203) hG hXs hbl hbA (by have o0 := e20; have o1 := (q_subN (lo := (-6)) (hi := 3066) e23 g20 rl_6 (by decide)).1; have o2 := c24; have o3 := (q_addN (lo := 1) (hi := 3067) e192 r_3 rl_1 (by decide)).1; have o4 := r_3; have o5 := r_5; have o6 := g20; have o7 := r_4; have l8 := tl_1; have l9 := tl_6; unfold q_r at o4 o5 o6 o7; omega) dL_law_203 (fun v203 e203 => ?_)
        refine q_cVi (pc := 204) [.int v203] [] hG (c_X12_road τ s194 a2 v203 w194.1 tA2) my_X12_road mv_X12_road w831 dL_law_204 tA2 (by decide) rfl rfl (Nat.le_of_ble_eq_true rfl) (by decide) (fun v204 s204 p204 => ?_)
        have w204 := w194.trans p204.1 rfl
        obtain ⟨q_11v, q_11f, q_11r⟩ := (w204.1 bn 100 549 Tbn 512 (by decide)).int (lo := 8) (hi := 64) rfl
        have q_11g : s204 bn (512 : Int32).toInt.toNat = .int q_11v := q_11f
        have hv_12 : v204.toInt = 1 → q_11v.toInt = v203.toInt := fun q => (zz_eqI q_11g ((p204.2.2.2.2.1 bn (w194.same tA2 rfl hbn)).1 q))
        have hv_13 : v204.toInt = 0 → q_11v.toInt = DB18.toInt := fun q => (zz_eqI q_11g (((p204.2.2.2.2.1 bn (w194.same tA2 rfl hbn)).2 q).trans (p194.1.same Tbn rfl iDB18.1)))
        have ra_14 : zz_rs (fx_N s204) c0 c1 c2 bn := zz_road2 iRA18 (p194.2.2.2.2.2 br c0 c1 c2 (hS18.same tA1 rfl hbr) (hS18.same Tbr rfl hc3.1) (hS18.same Tbr rfl hc3.2.1) (hS18.same Tbr rfl hc3.2.2)) (p204.2.2.2.2.2 bn (w194.same tA2 rfl hbn)) p194.1 p204.1 rfl rfl Tc0 Tc1 Tc2 Tbn (by have o0 := p194.2.2.2.1; have o1 := hv_7; have o2 := hv_8; have o3 := (congrArg Int32.toInt (e203.trans e193.symm)); have o4 := p204.2.2.2.1; have o5 := hv_12; have o6 := hv_13; have o7 := iDR18; have o8 := iDA18.2; have o9 := iDB18.2; have o10 := q_11r; have o11 := q_6r; have o12 := p194.2.1; have o13 := p204.2.1; unfold q_r at o8 o9 o10 o11 o12 o13; omega)
        have nw204 : v194.toInt = v204.toInt ∧ zw_L τ a1 a2 (fx_N s204) := zw_road (zw_H.mk hS18.1 tA1 tA2 p194.1 rfl p204.1 rfl iNW18) p194.2.2.1 p204.2.2.1 (by have o0 := p194.2.2.2.1; have o1 := hv_7; have o2 := hv_8; have o3 := (congrArg Int32.toInt (e203.trans e193.symm)); have o4 := p204.2.2.2.1; have o5 := hv_12; have o6 := hv_13; have o7 := iDR18; have o8 := iDA18.2; have o9 := iDB18.2; have o10 := q_11r; have o11 := q_6r; have o12 := p194.2.1; have o13 := p204.2.1; unfold q_r at o8 o9 o10 o11 o12 o13; omega)
        refine q_pop (pc := 207) hG dL_law_207 rfl ?_
        refine q_goto (pc := 208) 1447 hG dL_law_208 rfl ?_
        refine q_lv [0, 1, 2, 3] rfl ?_
        have lw_15 : zi_L a1 a2 (fx_N s204) := (zi_L.C w194.1 tA1 tA2 p204.1 rfl (zi_L.C hS18.1 tA1 tA2 p194.1 rfl iLW18))
        exact J1447 s204 KA18 KB18 q_6v q_11v EA18 EB18 TA18 TB18 w204 ⟨(p204.1.same tA1 rfl (p194.1.same tA1 rfl iKA18.1)), iKA18.2⟩ ⟨(p204.1.same tA2 rfl (p194.1.same tA2 rfl iKB18.1)), iKB18.2⟩ (by have o0 := iKR18; have o1 := iER18; have o2 := iEA18.2; have o3 := iEB18.2; have o4 := iKA18.2; have o5 := iKB18.2; unfold q_r at o2 o3 o4 o5; omega) ⟨(p204.1.same Tbr rfl q_6f), q_6r⟩ ⟨q_11g, q_11r⟩ ⟨(p204.1.same Tbk rfl (((p194.2.2.2.2.1 br (hS18.same tA1 rfl hbr)).2.2 bk (Ne.symm ne1) Tbk).trans iEA18.1)), iEA18.2⟩ ⟨(p204.1.same Tbm rfl (p194.1.same Tbm rfl iEB18.1)), iEB18.2⟩ ⟨(p204.1.same tA1 rfl (p194.1.same tA1 rfl iTA18.1)), iTA18.2⟩ ⟨(p204.1.same tA2 rfl (p194.1.same tA2 rfl iTB18.1)), iTB18.2⟩ (by have o0 := hv_7; have o1 := hv_8; have o2 := (congrArg Int32.toInt (e203.trans e193.symm)); have o3 := p204.2.2.2.1; have o4 := hv_12; have o5 := hv_13; have o6 := iDR18; have o7 := p194.2.2.2.1; have o8 := iDA18.2; have o9 := iDB18.2; have o10 := q_11r; have o11 := q_6r; have o12 := p194.2.1; have o13 := p204.2.1; unfold q_r at o8 o9 o10 o11 o12 o13; omega) (by have o0 := iTR18; have o1 := iTA18.2; have o2 := iTB18.2; unfold q_r at o1 o2; omega) (by have o0 := iKR18; have o1 := iER18; have o2 := iEA18.2; have o3 := iEB18.2; have o4 := iKA18.2; have o5 := iKB18.2; unfold q_r at o2 o3 o4 o5; omega) (zz_tc.keep (zz_tc.keep iTC18 p194.1.2 Tta Ttb rfl rfl) p204.1.2 Tta Ttb rfl rfl) ra_14 lw_15 nw204.2 (Or.imp id (fun z => zz_rs.C z p204.1 rfl Te0 Te1 Te2 (fun j _ => p204.1.2.arr Tbm (by decide) rfl)) re_10) ⟨(q_wf.keep w194.1 p204.1.2 tA2 rfl (q_wf.keep hS18.1 p194.1.2 tA2 rfl iV18.1)), (q_kp.keep w194.1 p204.1.2 tA2 rfl (q_kp.keep hS18.1 p194.1.2 tA2 rfl iV18.2))⟩
      by_cases z33_1 : v32.toInt = 1
      · skip
        refine q_tsIn (pc := 33) 1 211 hG dL_law_33 z33_1 (by decide) rfl rfl ?_
        refine q_aload_n (pc := 211) hG dL_law_211 1 rfl ?_
        refine q_aload_n (pc := 212) hG dL_law_212 0 rfl ?_
        refine q_iload_n (pc := 213) hG dL_law_213 3 rfl ?_
        refine q_iconst (pc := 214) hG dL_law_214 ki_1 ?_
        refine q_iadd (pc := 215) hG dL_law_215 (fun v215 e215 => ?_)
        have r_16 := (q_addN (lo := 1) (hi := 3067) e215 r_3 rl_1 (by decide)).2
        refine q_sld (pc := 216) hG hXs hbl hbA (by have o0 := e20; have o1 := (q_subN (lo := (-6)) (hi := 3066) e23 g20 rl_6 (by decide)).1; have o2 := c24; have o3 := (q_addN (lo := 1) (hi := 3067) e215 r_3 rl_1 (by decide)).1; have o4 := r_3; have o5 := g20; have o6 := r_16; have o7 := r_4; have l8 := tl_1; have l9 := tl_6; unfold q_r at o4 o5 o6 o7; omega) dL_law_216 (fun v216 e216 => ?_)
        refine q_aload_n (pc := 217) hG dL_law_217 0 rfl ?_
        refine q_iload_n (pc := 218) hG dL_law_218 3 rfl ?_
        refine q_iconst (pc := 219) hG dL_law_219 ki_2 ?_
        refine q_iadd (pc := 220) hG dL_law_220 (fun v220 e220 => ?_)
        have r_17 := (q_addN (lo := 2) (hi := 3068) e220 r_3 rl_2 (by decide)).2
        refine q_sld (pc := 221) hG hXs hbl hbA (by have o0 := e20; have o1 := (q_subN (lo := (-6)) (hi := 3066) e23 g20 rl_6 (by decide)).1; have o2 := c24; have o3 := (q_addN (lo := 1) (hi := 3067) e215 r_3 rl_1 (by decide)).1; have o4 := (q_addN (lo := 2) (hi := 3068) e220 r_3 rl_2 (by decide)).1; have o5 := r_3; have o6 := g20; have o7 := r_16; have o8 := r_17; have o9 := r_4; have l10 := tl_1; have l11 := tl_2; have l12 := tl_6; unfold q_r at o5 o6 o7 o8 o9; omega) dL_law_221 (fun v221 e221 => ?_)
        refine q_cVi (pc := 222) [.int v216, .int v221] [] hG (c_X11_row τ σ18 a1 v216 v221 hS18.1 tA1) my_X11_row mv_X11_row w241 dL_law_222 tA1 (by decide) rfl rfl (Nat.le_of_ble_eq_true rfl) (by decide) (fun v222 s222 p222 => ?_)
        have w222 := hS18.trans p222.1 rfl
        obtain ⟨z222, fz222, gz222⟩ := (p222.2.2.2 TA18 iTA18.1)
        have rz222 : q_r z222 0 260 := zz_rng (w222.1 a1 9 1 tA1 1 (by decide)) ff_9_1 fz222
        refine q_pop (pc := 225) hG dL_law_225 rfl ?_
        refine q_aload_n (pc := 226) hG dL_law_226 2 rfl ?_
        refine q_aload_n (pc := 227) hG dL_law_227 0 rfl ?_
        refine q_iload_n (pc := 228) hG dL_law_228 3 rfl ?_
        refine q_iconst (pc := 229) hG dL_law_229 ki_1 ?_
        refine q_iadd (pc := 230) hG dL_law_230 (fun v230 e230 => ?_)
        rw [e230.trans e215.symm]
        refine q_sld (pc := 231) hG hXs hbl hbA (by have o0 := e20; have o1 := (q_subN (lo := (-6)) (hi := 3066) e23 g20 rl_6 (by decide)).1; have o2 := c24; have o3 := (q_addN (lo := 1) (hi := 3067) e215 r_3 rl_1 (by decide)).1; have o4 := (q_addN (lo := 2) (hi := 3068) e220 r_3 rl_2 (by decide)).1; have o5 := r_3; have o6 := g20; have o7 := r_16; have o8 := r_17; have o9 := r_4; have l10 := tl_1; have l11 := tl_2; have l12 := tl_6; unfold q_r at o5 o6 o7 o8 o9; omega) dL_law_231 (fun v231 e231 => ?_)
        refine q_aload_n (pc := 232) hG dL_law_232 0 rfl ?_
        refine q_iload_n (pc := 233) hG dL_law_233 3 rfl ?_
        refine q_iconst (pc := 234) hG dL_law_234 ki_2 ?_
        refine q_iadd (pc := 235) hG dL_law_235 (fun v235 e235 => ?_)
        rw [e235.trans e220.symm]
        refine q_sld (pc := 236) hG hXs hbl hbA (by have o0 := e20; have o1 := (q_subN (lo := (-6)) (hi := 3066) e23 g20 rl_6 (by decide)).1; have o2 := c24; have o3 := (q_addN (lo := 1) (hi := 3067) e215 r_3 rl_1 (by decide)).1; have o4 := (q_addN (lo := 2) (hi := 3068) e220 r_3 rl_2 (by decide)).1; have o5 := r_3; have o6 := g20; have o7 := r_16; have o8 := r_17; have o9 := r_4; have l10 := tl_1; have l11 := tl_2; have l12 := tl_6; unfold q_r at o5 o6 o7 o8 o9; omega) dL_law_236 (fun v236 e236 => ?_)
        refine q_cVi (pc := 237) [.int v231, .int v236] [] hG (c_X12_row τ s222 a2 v231 v236 w222.1 tA2) my_X12_row mv_X12_row w872 dL_law_237 tA2 (by decide) rfl rfl (Nat.le_of_ble_eq_true rfl) (by decide) (fun v237 s237 p237 => ?_)
        have w237 := w222.trans p237.1 rfl
        have tp237 := zz_tp.of iTC18 iTA18.1 (p222.1.same tA2 rfl iTB18.1) (by have o0 := iTR18; have o1 := gz222; have o2 := (congrArg Int32.toInt (e231.trans e216.symm)); have o3 := (congrArg Int32.toInt (e236.trans e221.symm)); have o4 := iTA18.2; have o5 := iTB18.2; have o6 := p222.2.1; have o7 := rz222; unfold q_r at o4 o5 o6 o7; omega) (hS18.same tA1 rfl hta) (w222.same tA2 rfl htb) Ttb p222.1.2 rfl
        have K237 := zz_row2 hS18.1 w222.1 tp237 iTB18.2 Tta Ttb tA1 tA2 Tbn (hS18.same tA1 rfl hbr) iDA18.1 (w222.same tA2 rfl hbn) (p222.1.same Tbn rfl iDB18.1) (by have o0 := iDR18; have o1 := iDA18.2; have o2 := iDB18.2; unfold q_r at o1 o2; omega) iDA18.2 p222.2.2.1 p237.2.2.1 (by have o0 := gz222; have o1 := (congrArg Int32.toInt (e231.trans e216.symm)); have o2 := (congrArg Int32.toInt (e236.trans e221.symm)); have o3 := iTR18; have o4 := iTA18.2; have o5 := iTB18.2; have o6 := p222.2.1; have o7 := rz222; unfold q_r at o4 o5 o6 o7; omega) (by have o0 := gz222; have o1 := (congrArg Int32.toInt (e231.trans e216.symm)); have o2 := (congrArg Int32.toInt (e236.trans e221.symm)); have o3 := iTR18; have o4 := iTA18.2; have o5 := iTB18.2; have o6 := p222.2.1; have o7 := rz222; unfold q_r at o4 o5 o6 o7; omega) ⟨(hS18.same Tbr rfl hc3.1), (hS18.same Tbr rfl hc3.2.1), (hS18.same Tbr rfl hc3.2.2)⟩
        obtain ⟨z237, fz237, gz237⟩ := (p237.2.2.2.1 TB18 (p222.1.same tA2 rfl iTB18.1))
        have rz237 : q_r z237 0 260 := zz_rng (w237.1 a2 10 1 tA2 4 (by decide)) ff_10_4 fz237
        have ra_18 : zz_rs (fx_N s237) c0 c1 c2 bn := zz_rowA iRA18 K237 tA1 iDA18.2 ap1.1 p222.1 p237.1 rfl rfl Tc0 Tc1 Tc2 Tbn
        have re_19 : KA18.toInt = 0 ∨ zz_rs (fx_N s237) e0 e1 e2 bm := Or.imp id (fun z => zz_rowE z K237 tA1 ap1 p222.1 p237.1 rfl rfl rfl Te0 Te1 Te2 Tbm) iRE18
        have nw237 : zw_L τ a1 a2 (fx_N s237) := zw_row tA1 tA2 p222.1 rfl p237.1 rfl iNW18 (w222.same tA2 rfl hbn) (zw_rowK (show DA18.toInt ≤ 64 from (iDA18.2).2) K237)
        refine q_pop (pc := 240) hG dL_law_240 rfl ?_
        refine q_goto (pc := 241) 1447 hG dL_law_241 rfl ?_
        refine q_lv [0, 1, 2, 3] rfl ?_
        have lw_20 : zi_L a1 a2 (fx_N s237) := (zi_L.C w222.1 tA1 tA2 p237.1 rfl (zi_L.C hS18.1 tA1 tA2 p222.1 rfl iLW18))
        exact J1447 s237 KA18 KB18 DA18 DB18 EA18 EB18 z222 z237 w237 ⟨(p237.1.same tA1 rfl (p222.1.same tA1 rfl iKA18.1)), iKA18.2⟩ ⟨(p237.1.same tA2 rfl (p222.1.same tA2 rfl iKB18.1)), iKB18.2⟩ (by have o0 := iKR18; have o1 := iER18; have o2 := iEA18.2; have o3 := iEB18.2; have o4 := iKA18.2; have o5 := iKB18.2; unfold q_r at o2 o3 o4 o5; omega) ⟨(p237.1.same Tbr rfl (p222.1.same Tbr rfl iDA18.1)), iDA18.2⟩ ⟨((p237.2.2.2.2 bn (w222.same tA2 rfl hbn)).trans (p222.1.same Tbn rfl iDB18.1)), iDB18.2⟩ ⟨(p237.1.same Tbk rfl (p222.1.same Tbk rfl iEA18.1)), iEA18.2⟩ ⟨(p237.1.same Tbm rfl (p222.1.same Tbm rfl iEB18.1)), iEB18.2⟩ ⟨(p237.1.same tA1 rfl fz222), rz222⟩ ⟨fz237, rz237⟩ (by have o0 := iDR18; have o1 := iDA18.2; have o2 := iDB18.2; unfold q_r at o1 o2; omega) (by have o0 := gz222; have o1 := (congrArg Int32.toInt (e231.trans e216.symm)); have o2 := (congrArg Int32.toInt (e236.trans e221.symm)); have o3 := gz237; have o4 := iTR18; have o5 := iTA18.2; have o6 := iTB18.2; have o7 := p222.2.1; have o8 := p237.2.1; have o9 := rz222; have o10 := rz237; unfold q_r at o5 o6 o7 o8 o9 o10; omega) (by have o0 := iKR18; have o1 := iER18; have o2 := iEA18.2; have o3 := iEB18.2; have o4 := iKA18.2; have o5 := iKB18.2; unfold q_r at o2 o3 o4 o5; omega) (zz_tc.less (zz_tc.keep (zz_tc.keep iTC18 p222.1.2 Tta Ttb rfl rfl) p237.1.2 Tta Ttb rfl rfl) (by have o0 := iTR18; have o1 := gz222; have o2 := (congrArg Int32.toInt (e231.trans e216.symm)); have o3 := (congrArg Int32.toInt (e236.trans e221.symm)); have o4 := gz237; have o5 := iTA18.2; have o6 := iTB18.2; have o7 := p222.2.1; have o8 := p237.2.1; have o9 := rz222; have o10 := rz237; unfold q_r at o5 o6 o7 o8 o9 o10; omega)) ra_18 lw_20 nw237 re_19 ⟨(q_wf.keep w222.1 p237.1.2 tA2 rfl (q_wf.keep hS18.1 p222.1.2 tA2 rfl iV18.1)), (q_kp.keep w222.1 p237.1.2 tA2 rfl (q_kp.keep hS18.1 p222.1.2 tA2 rfl iV18.2))⟩
      by_cases z33_2 : v32.toInt = 2
      · skip
        refine q_tsIn (pc := 33) 2 244 hG dL_law_33 z33_2 (by decide) rfl rfl ?_
        refine q_aload_n (pc := 244) hG dL_law_244 1 rfl ?_
        refine q_aload_n (pc := 245) hG dL_law_245 0 rfl ?_
        refine q_iload_n (pc := 246) hG dL_law_246 3 rfl ?_
        refine q_iconst (pc := 247) hG dL_law_247 ki_1 ?_
        refine q_iadd (pc := 248) hG dL_law_248 (fun v248 e248 => ?_)
        have r_21 := (q_addN (lo := 1) (hi := 3067) e248 r_3 rl_1 (by decide)).2
        refine q_sld (pc := 249) hG hXs hbl hbA (by have o0 := e20; have o1 := (q_subN (lo := (-6)) (hi := 3066) e23 g20 rl_6 (by decide)).1; have o2 := c24; have o3 := (q_addN (lo := 1) (hi := 3067) e248 r_3 rl_1 (by decide)).1; have o4 := r_3; have o5 := g20; have o6 := r_4; have o7 := r_21; have l8 := tl_1; have l9 := tl_6; unfold q_r at o4 o5 o6 o7; omega) dL_law_249 (fun v249 e249 => ?_)
        refine q_aload_n (pc := 250) hG dL_law_250 0 rfl ?_
        refine q_iload_n (pc := 251) hG dL_law_251 3 rfl ?_
        refine q_iconst (pc := 252) hG dL_law_252 ki_2 ?_
        refine q_iadd (pc := 253) hG dL_law_253 (fun v253 e253 => ?_)
        have r_22 := (q_addN (lo := 2) (hi := 3068) e253 r_3 rl_2 (by decide)).2
        refine q_sld (pc := 254) hG hXs hbl hbA (by have o0 := e20; have o1 := (q_subN (lo := (-6)) (hi := 3066) e23 g20 rl_6 (by decide)).1; have o2 := c24; have o3 := (q_addN (lo := 1) (hi := 3067) e248 r_3 rl_1 (by decide)).1; have o4 := (q_addN (lo := 2) (hi := 3068) e253 r_3 rl_2 (by decide)).1; have o5 := r_3; have o6 := g20; have o7 := r_4; have o8 := r_21; have o9 := r_22; have l10 := tl_1; have l11 := tl_2; have l12 := tl_6; unfold q_r at o5 o6 o7 o8 o9; omega) dL_law_254 (fun v254 e254 => ?_)
        refine q_aload_n (pc := 255) hG dL_law_255 0 rfl ?_
        refine q_iload_n (pc := 256) hG dL_law_256 3 rfl ?_
        refine q_iconst (pc := 257) hG dL_law_257 ki_3 ?_
        refine q_iadd (pc := 258) hG dL_law_258 (fun v258 e258 => ?_)
        have r_23 := (q_addN (lo := 3) (hi := 3069) e258 r_3 rl_3 (by decide)).2
        refine q_sld (pc := 259) hG hXs hbl hbA (by have o0 := e20; have o1 := (q_subN (lo := (-6)) (hi := 3066) e23 g20 rl_6 (by decide)).1; have o2 := c24; have o3 := (q_addN (lo := 1) (hi := 3067) e248 r_3 rl_1 (by decide)).1; have o4 := (q_addN (lo := 2) (hi := 3068) e253 r_3 rl_2 (by decide)).1; have o5 := (q_addN (lo := 3) (hi := 3069) e258 r_3 rl_3 (by decide)).1; have o6 := r_3; have o7 := g20; have o8 := r_4; have o9 := r_21; have o10 := r_22; have o11 := r_23; have l12 := tl_1; have l13 := tl_2; have l14 := tl_3; have l15 := tl_6; unfold q_r at o6 o7 o8 o9 o10 o11; omega) dL_law_259 (fun v259 e259 => ?_)
        refine q_cVi (pc := 260) [.int v249, .int v254, .int v259] [] hG (c_X11_old τ σ18 a1 v249 v254 v259 hS18.1 tA1) my_X11_old mv_X11_old w281 dL_law_260 tA1 (by decide) rfl rfl (Nat.le_of_ble_eq_true rfl) (by decide) (fun v260 s260 p260 => ?_)
        have w260 := hS18.trans p260.1 rfl
        refine q_pop (pc := 263) hG dL_law_263 rfl ?_
        refine q_aload_n (pc := 264) hG dL_law_264 2 rfl ?_
        refine q_aload_n (pc := 265) hG dL_law_265 0 rfl ?_
        refine q_iload_n (pc := 266) hG dL_law_266 3 rfl ?_
        refine q_iconst (pc := 267) hG dL_law_267 ki_1 ?_
        refine q_iadd (pc := 268) hG dL_law_268 (fun v268 e268 => ?_)
        rw [e268.trans e248.symm]
        refine q_sld (pc := 269) hG hXs hbl hbA (by have o0 := e20; have o1 := (q_subN (lo := (-6)) (hi := 3066) e23 g20 rl_6 (by decide)).1; have o2 := c24; have o3 := (q_addN (lo := 1) (hi := 3067) e248 r_3 rl_1 (by decide)).1; have o4 := (q_addN (lo := 2) (hi := 3068) e253 r_3 rl_2 (by decide)).1; have o5 := (q_addN (lo := 3) (hi := 3069) e258 r_3 rl_3 (by decide)).1; have o6 := r_3; have o7 := g20; have o8 := r_4; have o9 := r_21; have o10 := r_22; have o11 := r_23; have l12 := tl_1; have l13 := tl_2; have l14 := tl_3; have l15 := tl_6; unfold q_r at o6 o7 o8 o9 o10 o11; omega) dL_law_269 (fun v269 e269 => ?_)
        refine q_aload_n (pc := 270) hG dL_law_270 0 rfl ?_
        refine q_iload_n (pc := 271) hG dL_law_271 3 rfl ?_
        refine q_iconst (pc := 272) hG dL_law_272 ki_2 ?_
        refine q_iadd (pc := 273) hG dL_law_273 (fun v273 e273 => ?_)
        rw [e273.trans e253.symm]
        refine q_sld (pc := 274) hG hXs hbl hbA (by have o0 := e20; have o1 := (q_subN (lo := (-6)) (hi := 3066) e23 g20 rl_6 (by decide)).1; have o2 := c24; have o3 := (q_addN (lo := 1) (hi := 3067) e248 r_3 rl_1 (by decide)).1; have o4 := (q_addN (lo := 2) (hi := 3068) e253 r_3 rl_2 (by decide)).1; have o5 := (q_addN (lo := 3) (hi := 3069) e258 r_3 rl_3 (by decide)).1; have o6 := r_3; have o7 := g20; have o8 := r_4; have o9 := r_21; have o10 := r_22; have o11 := r_23; have l12 := tl_1; have l13 := tl_2; have l14 := tl_3; have l15 := tl_6; unfold q_r at o6 o7 o8 o9 o10 o11; omega) dL_law_274 (fun v274 e274 => ?_)
        refine q_aload_n (pc := 275) hG dL_law_275 0 rfl ?_
        refine q_iload_n (pc := 276) hG dL_law_276 3 rfl ?_
        refine q_iconst (pc := 277) hG dL_law_277 ki_3 ?_
        refine q_iadd (pc := 278) hG dL_law_278 (fun v278 e278 => ?_)
        rw [e278.trans e258.symm]
        refine q_sld (pc := 279) hG hXs hbl hbA (by have o0 := e20; have o1 := (q_subN (lo := (-6)) (hi := 3066) e23 g20 rl_6 (by decide)).1; have o2 := c24; have o3 := (q_addN (lo := 1) (hi := 3067) e248 r_3 rl_1 (by decide)).1; have o4 := (q_addN (lo := 2) (hi := 3068) e253 r_3 rl_2 (by decide)).1; have o5 := (q_addN (lo := 3) (hi := 3069) e258 r_3 rl_3 (by decide)).1; have o6 := r_3; have o7 := g20; have o8 := r_4; have o9 := r_21; have o10 := r_22; have o11 := r_23; have l12 := tl_1; have l13 := tl_2; have l14 := tl_3; have l15 := tl_6; unfold q_r at o6 o7 o8 o9 o10 o11; omega) dL_law_279 (fun v279 e279 => ?_)
        refine q_cVi (pc := 280) [.int v269, .int v274, .int v279] [] hG (c_X12_old τ s260 a2 v269 v274 v279 w260.1 tA2) my_X12_old mv_X12_old w832 dL_law_280 tA2 (by decide) rfl rfl (Nat.le_of_ble_eq_true rfl) (by decide) (fun v280 s280 p280 => ?_)
        have w280 := w260.trans p280.1 rfl
        have nw280 : v260.toInt = v280.toInt ∧ zw_L τ a1 a2 (fx_N s280) := zw_old (zw_H.mk hS18.1 tA1 tA2 p260.1 rfl p280.1 rfl iNW18) p260.2.2.1 p280.2.2.1 (by have o0 := (congrArg Int32.toInt (e269.trans e249.symm)); omega) (by have o0 := (congrArg Int32.toInt (e274.trans e254.symm)); omega) (by have o0 := (congrArg Int32.toInt (e279.trans e259.symm)); omega)
        refine q_pop (pc := 283) hG dL_law_283 rfl ?_
        refine q_goto (pc := 284) 1447 hG dL_law_284 rfl ?_
        refine q_lv [0, 1, 2, 3] rfl ?_
        have ra_24 : zz_rs (fx_N s280) c0 c1 c2 bn := (zz_rs.C (zz_rs.C iRA18 p260.1 rfl Tc0 Tc1 Tc2 (fun j _ => p260.1.2.arr Tbn (by decide) rfl)) p280.1 rfl Tc0 Tc1 Tc2 (fun j hj => (p280.2.2.2.1 bn (w260.same tA2 rfl hbn)) j (Or.inl hj)))
        have lw_25 : zi_L a1 a2 (fx_N s280) := (zi_L.C w260.1 tA1 tA2 p280.1 rfl (zi_L.C hS18.1 tA1 tA2 p260.1 rfl iLW18))
        exact J1447 s280 KA18 KB18 DA18 DB18 EA18 EB18 TA18 TB18 w280 ⟨(p280.1.same tA1 rfl (p260.1.same tA1 rfl iKA18.1)), iKA18.2⟩ ⟨(p280.1.same tA2 rfl (p260.1.same tA2 rfl iKB18.1)), iKB18.2⟩ (by have o0 := iKR18; have o1 := iER18; have o2 := iEA18.2; have o3 := iEB18.2; have o4 := iKA18.2; have o5 := iKB18.2; unfold q_r at o2 o3 o4 o5; omega) ⟨(p280.1.same Tbr rfl (p260.1.same Tbr rfl iDA18.1)), iDA18.2⟩ ⟨((p280.2.2.2.1 bn (w260.same tA2 rfl hbn) _ (Or.inr (by decide))).trans (p260.1.same Tbn rfl iDB18.1)), iDB18.2⟩ ⟨(p280.1.same Tbk rfl (p260.1.same Tbk rfl iEA18.1)), iEA18.2⟩ ⟨(p280.1.same Tbm rfl (p260.1.same Tbm rfl iEB18.1)), iEB18.2⟩ ⟨(p280.1.same tA1 rfl (p260.1.same tA1 rfl iTA18.1)), iTA18.2⟩ ⟨(p280.1.same tA2 rfl (p260.1.same tA2 rfl iTB18.1)), iTB18.2⟩ (by have o0 := iDR18; have o1 := iDA18.2; have o2 := iDB18.2; unfold q_r at o1 o2; omega) (by have o0 := iTR18; have o1 := iTA18.2; have o2 := iTB18.2; unfold q_r at o1 o2; omega) (by have o0 := iKR18; have o1 := iER18; have o2 := iEA18.2; have o3 := iEB18.2; have o4 := iKA18.2; have o5 := iKB18.2; unfold q_r at o2 o3 o4 o5; omega) (zz_tc.keep (zz_tc.keep iTC18 p260.1.2 Tta Ttb rfl rfl) p280.1.2 Tta Ttb rfl rfl) ra_24 lw_25 nw280.2 (Or.imp id (fun z => zz_rs.C z p280.1 rfl Te0 Te1 Te2 (fun j _ => p280.1.2.arr Tbm (by decide) rfl)) (Or.imp id (fun z => zz_rs.C z p260.1 rfl Te0 Te1 Te2 (fun j _ => p260.1.2.arr Tbm (by decide) rfl)) iRE18)) ⟨(q_wf.keep w260.1 p280.1.2 tA2 rfl (q_wf.keep hS18.1 p260.1.2 tA2 rfl iV18.1)), (q_kp.keep w260.1 p280.1.2 tA2 rfl (q_kp.keep hS18.1 p260.1.2 tA2 rfl iV18.2))⟩
      by_cases z33_3 : v32.toInt = 3
      · skip
        refine q_tsIn (pc := 33) 3 287 hG dL_law_33 z33_3 (by decide) rfl rfl ?_
        refine q_aload_n (pc := 287) hG dL_law_287 1 rfl ?_
        refine q_aload_n (pc := 288) hG dL_law_288 0 rfl ?_
        refine q_iload_n (pc := 289) hG dL_law_289 3 rfl ?_
        refine q_iconst (pc := 290) hG dL_law_290 ki_1 ?_
        refine q_iadd (pc := 291) hG dL_law_291 (fun v291 e291 => ?_)
        have r_26 := (q_addN (lo := 1) (hi := 3067) e291 r_3 rl_1 (by decide)).2
        refine q_sld (pc := 292) hG hXs hbl hbA (by have o0 := e20; have o1 := (q_subN (lo := (-6)) (hi := 3066) e23 g20 rl_6 (by decide)).1; have o2 := c24; have o3 := (q_addN (lo := 1) (hi := 3067) e291 r_3 rl_1 (by decide)).1; have o4 := r_3; have o5 := g20; have o6 := r_4; have o7 := r_26; have l8 := tl_1; have l9 := tl_6; unfold q_r at o4 o5 o6 o7; omega) dL_law_292 (fun v292 e292 => ?_)
        refine q_aload_n (pc := 293) hG dL_law_293 0 rfl ?_
        refine q_iload_n (pc := 294) hG dL_law_294 3 rfl ?_
        refine q_iconst (pc := 295) hG dL_law_295 ki_2 ?_
        refine q_iadd (pc := 296) hG dL_law_296 (fun v296 e296 => ?_)
        have r_27 := (q_addN (lo := 2) (hi := 3068) e296 r_3 rl_2 (by decide)).2
        refine q_sld (pc := 297) hG hXs hbl hbA (by have o0 := e20; have o1 := (q_subN (lo := (-6)) (hi := 3066) e23 g20 rl_6 (by decide)).1; have o2 := c24; have o3 := (q_addN (lo := 1) (hi := 3067) e291 r_3 rl_1 (by decide)).1; have o4 := (q_addN (lo := 2) (hi := 3068) e296 r_3 rl_2 (by decide)).1; have o5 := r_3; have o6 := g20; have o7 := r_4; have o8 := r_26; have o9 := r_27; have l10 := tl_1; have l11 := tl_2; have l12 := tl_6; unfold q_r at o5 o6 o7 o8 o9; omega) dL_law_297 (fun v297 e297 => ?_)
        refine q_aload_n (pc := 298) hG dL_law_298 0 rfl ?_
        refine q_iload_n (pc := 299) hG dL_law_299 3 rfl ?_
        refine q_iconst (pc := 300) hG dL_law_300 ki_3 ?_
        refine q_iadd (pc := 301) hG dL_law_301 (fun v301 e301 => ?_)
        have r_28 := (q_addN (lo := 3) (hi := 3069) e301 r_3 rl_3 (by decide)).2
        refine q_sld (pc := 302) hG hXs hbl hbA (by have o0 := e20; have o1 := (q_subN (lo := (-6)) (hi := 3066) e23 g20 rl_6 (by decide)).1; have o2 := c24; have o3 := (q_addN (lo := 1) (hi := 3067) e291 r_3 rl_1 (by decide)).1; have o4 := (q_addN (lo := 2) (hi := 3068) e296 r_3 rl_2 (by decide)).1; have o5 := (q_addN (lo := 3) (hi := 3069) e301 r_3 rl_3 (by decide)).1; have o6 := r_3; have o7 := g20; have o8 := r_4; have o9 := r_26; have o10 := r_27; have o11 := r_28; have l12 := tl_1; have l13 := tl_2; have l14 := tl_3; have l15 := tl_6; unfold q_r at o6 o7 o8 o9 o10 o11; omega) dL_law_302 (fun v302 e302 => ?_)
        refine q_aload_n (pc := 303) hG dL_law_303 0 rfl ?_
        refine q_iload_n (pc := 304) hG dL_law_304 3 rfl ?_
        refine q_iconst (pc := 305) hG dL_law_305 ki_4 ?_
        refine q_iadd (pc := 306) hG dL_law_306 (fun v306 e306 => ?_)
        have r_29 := (q_addN (lo := 4) (hi := 3070) e306 r_3 rl_4 (by decide)).2
        refine q_sld (pc := 307) hG hXs hbl hbA (by have o0 := e20; have o1 := (q_subN (lo := (-6)) (hi := 3066) e23 g20 rl_6 (by decide)).1; have o2 := c24; have o3 := (q_addN (lo := 1) (hi := 3067) e291 r_3 rl_1 (by decide)).1; have o4 := (q_addN (lo := 2) (hi := 3068) e296 r_3 rl_2 (by decide)).1; have o5 := (q_addN (lo := 3) (hi := 3069) e301 r_3 rl_3 (by decide)).1; have o6 := (q_addN (lo := 4) (hi := 3070) e306 r_3 rl_4 (by decide)).1; have o7 := r_3; have o8 := g20; have o9 := r_4; have o10 := r_26; have o11 := r_27; have o12 := r_28; have o13 := r_29; have l14 := tl_1; have l15 := tl_2; have l16 := tl_3; have l17 := tl_4; have l18 := tl_6; unfold q_r at o7 o8 o9 o10 o11 o12 o13; omega) dL_law_307 (fun v307 e307 => ?_)
        refine q_aload_n (pc := 308) hG dL_law_308 0 rfl ?_
        refine q_iload_n (pc := 309) hG dL_law_309 3 rfl ?_
        refine q_iconst (pc := 310) hG dL_law_310 ki_5 ?_
        refine q_iadd (pc := 311) hG dL_law_311 (fun v311 e311 => ?_)
        have r_30 := (q_addN (lo := 5) (hi := 3071) e311 r_3 rl_5 (by decide)).2
        refine q_sld (pc := 312) hG hXs hbl hbA (by have o0 := e20; have o1 := (q_subN (lo := (-6)) (hi := 3066) e23 g20 rl_6 (by decide)).1; have o2 := c24; have o3 := (q_addN (lo := 1) (hi := 3067) e291 r_3 rl_1 (by decide)).1; have o4 := (q_addN (lo := 2) (hi := 3068) e296 r_3 rl_2 (by decide)).1; have o5 := (q_addN (lo := 3) (hi := 3069) e301 r_3 rl_3 (by decide)).1; have o6 := (q_addN (lo := 4) (hi := 3070) e306 r_3 rl_4 (by decide)).1; have o7 := (q_addN (lo := 5) (hi := 3071) e311 r_3 rl_5 (by decide)).1; have o8 := r_3; have o9 := g20; have o10 := r_4; have o11 := r_26; have o12 := r_27; have o13 := r_28; have o14 := r_29; have o15 := r_30; have l16 := tl_1; have l17 := tl_2; have l18 := tl_3; have l19 := tl_4; have l20 := tl_5; have l21 := tl_6; unfold q_r at o8 o9 o10 o11 o12 o13 o14 o15; omega) dL_law_312 (fun v312 e312 => ?_)
        refine q_cVi (pc := 313) [.int v292, .int v297, .int v302, .int v307, .int v312] [] hG (c_X11_feed τ σ18 a1 v292 v297 v302 v307 v312 hS18.1 tA1) my_X11_feed mv_X11_feed w293 dL_law_313 tA1 (by decide) rfl rfl (Nat.le_of_ble_eq_true rfl) (by decide) (fun v313 s313 p313 => ?_)
        have w313 := hS18.trans p313.1 rfl
        obtain ⟨z313, fz313, gz313⟩ := (p313.2.2.2 TA18 iTA18.1)
        have rz313 : q_r z313 0 260 := zz_rng (w313.1 a1 9 1 tA1 1 (by decide)) ff_9_1 fz313
        refine q_pop (pc := 316) hG dL_law_316 rfl ?_
        refine q_aload_n (pc := 317) hG dL_law_317 2 rfl ?_
        refine q_aload_n (pc := 318) hG dL_law_318 0 rfl ?_
        refine q_iload_n (pc := 319) hG dL_law_319 3 rfl ?_
        refine q_iconst (pc := 320) hG dL_law_320 ki_1 ?_
        refine q_iadd (pc := 321) hG dL_law_321 (fun v321 e321 => ?_)
        rw [e321.trans e291.symm]
        refine q_sld (pc := 322) hG hXs hbl hbA (by have o0 := e20; have o1 := (q_subN (lo := (-6)) (hi := 3066) e23 g20 rl_6 (by decide)).1; have o2 := c24; have o3 := (q_addN (lo := 1) (hi := 3067) e291 r_3 rl_1 (by decide)).1; have o4 := (q_addN (lo := 2) (hi := 3068) e296 r_3 rl_2 (by decide)).1; have o5 := (q_addN (lo := 3) (hi := 3069) e301 r_3 rl_3 (by decide)).1; have o6 := (q_addN (lo := 4) (hi := 3070) e306 r_3 rl_4 (by decide)).1; have o7 := (q_addN (lo := 5) (hi := 3071) e311 r_3 rl_5 (by decide)).1; have o8 := r_3; have o9 := g20; have o10 := r_4; have o11 := r_26; have o12 := r_27; have o13 := r_28; have o14 := r_29; have o15 := r_30; have l16 := tl_1; have l17 := tl_2; have l18 := tl_3; have l19 := tl_4; have l20 := tl_5; have l21 := tl_6; unfold q_r at o8 o9 o10 o11 o12 o13 o14 o15; omega) dL_law_322 (fun v322 e322 => ?_)
        refine q_aload_n (pc := 323) hG dL_law_323 0 rfl ?_
        refine q_iload_n (pc := 324) hG dL_law_324 3 rfl ?_
        refine q_iconst (pc := 325) hG dL_law_325 ki_2 ?_
        refine q_iadd (pc := 326) hG dL_law_326 (fun v326 e326 => ?_)
        rw [e326.trans e296.symm]
        refine q_sld (pc := 327) hG hXs hbl hbA (by have o0 := e20; have o1 := (q_subN (lo := (-6)) (hi := 3066) e23 g20 rl_6 (by decide)).1; have o2 := c24; have o3 := (q_addN (lo := 1) (hi := 3067) e291 r_3 rl_1 (by decide)).1; have o4 := (q_addN (lo := 2) (hi := 3068) e296 r_3 rl_2 (by decide)).1; have o5 := (q_addN (lo := 3) (hi := 3069) e301 r_3 rl_3 (by decide)).1; have o6 := (q_addN (lo := 4) (hi := 3070) e306 r_3 rl_4 (by decide)).1; have o7 := (q_addN (lo := 5) (hi := 3071) e311 r_3 rl_5 (by decide)).1; have o8 := r_3; have o9 := g20; have o10 := r_4; have o11 := r_26; have o12 := r_27; have o13 := r_28; have o14 := r_29; have o15 := r_30; have l16 := tl_1; have l17 := tl_2; have l18 := tl_3; have l19 := tl_4; have l20 := tl_5; have l21 := tl_6; unfold q_r at o8 o9 o10 o11 o12 o13 o14 o15; omega) dL_law_327 (fun v327 e327 => ?_)
        refine q_aload_n (pc := 328) hG dL_law_328 0 rfl ?_
        refine q_iload_n (pc := 329) hG dL_law_329 3 rfl ?_
        refine q_iconst (pc := 330) hG dL_law_330 ki_3 ?_
        refine q_iadd (pc := 331) hG dL_law_331 (fun v331 e331 => ?_)
        rw [e331.trans e301.symm]
        refine q_sld (pc := 332) hG hXs hbl hbA (by have o0 := e20; have o1 := (q_subN (lo := (-6)) (hi := 3066) e23 g20 rl_6 (by decide)).1; have o2 := c24; have o3 := (q_addN (lo := 1) (hi := 3067) e291 r_3 rl_1 (by decide)).1; have o4 := (q_addN (lo := 2) (hi := 3068) e296 r_3 rl_2 (by decide)).1; have o5 := (q_addN (lo := 3) (hi := 3069) e301 r_3 rl_3 (by decide)).1; have o6 := (q_addN (lo := 4) (hi := 3070) e306 r_3 rl_4 (by decide)).1; have o7 := (q_addN (lo := 5) (hi := 3071) e311 r_3 rl_5 (by decide)).1; have o8 := r_3; have o9 := g20; have o10 := r_4; have o11 := r_26; have o12 := r_27; have o13 := r_28; have o14 := r_29; have o15 := r_30; have l16 := tl_1; have l17 := tl_2; have l18 := tl_3; have l19 := tl_4; have l20 := tl_5; have l21 := tl_6; unfold q_r at o8 o9 o10 o11 o12 o13 o14 o15; omega) dL_law_332 (fun v332 e332 => ?_)
        refine q_aload_n (pc := 333) hG dL_law_333 0 rfl ?_
        refine q_iload_n (pc := 334) hG dL_law_334 3 rfl ?_
        refine q_iconst (pc := 335) hG dL_law_335 ki_4 ?_
        refine q_iadd (pc := 336) hG dL_law_336 (fun v336 e336 => ?_)
        rw [e336.trans e306.symm]
        refine q_sld (pc := 337) hG hXs hbl hbA (by have o0 := e20; have o1 := (q_subN (lo := (-6)) (hi := 3066) e23 g20 rl_6 (by decide)).1; have o2 := c24; have o3 := (q_addN (lo := 1) (hi := 3067) e291 r_3 rl_1 (by decide)).1; have o4 := (q_addN (lo := 2) (hi := 3068) e296 r_3 rl_2 (by decide)).1; have o5 := (q_addN (lo := 3) (hi := 3069) e301 r_3 rl_3 (by decide)).1; have o6 := (q_addN (lo := 4) (hi := 3070) e306 r_3 rl_4 (by decide)).1; have o7 := (q_addN (lo := 5) (hi := 3071) e311 r_3 rl_5 (by decide)).1; have o8 := r_3; have o9 := g20; have o10 := r_4; have o11 := r_26; have o12 := r_27; have o13 := r_28; have o14 := r_29; have o15 := r_30; have l16 := tl_1; have l17 := tl_2; have l18 := tl_3; have l19 := tl_4; have l20 := tl_5; have l21 := tl_6; unfold q_r at o8 o9 o10 o11 o12 o13 o14 o15; omega) dL_law_337 (fun v337 e337 => ?_)
        refine q_aload_n (pc := 338) hG dL_law_338 0 rfl ?_
        refine q_iload_n (pc := 339) hG dL_law_339 3 rfl ?_
        refine q_iconst (pc := 340) hG dL_law_340 ki_5 ?_
        refine q_iadd (pc := 341) hG dL_law_341 (fun v341 e341 => ?_)
        rw [e341.trans e311.symm]
        refine q_sld (pc := 342) hG hXs hbl hbA (by have o0 := e20; have o1 := (q_subN (lo := (-6)) (hi := 3066) e23 g20 rl_6 (by decide)).1; have o2 := c24; have o3 := (q_addN (lo := 1) (hi := 3067) e291 r_3 rl_1 (by decide)).1; have o4 := (q_addN (lo := 2) (hi := 3068) e296 r_3 rl_2 (by decide)).1; have o5 := (q_addN (lo := 3) (hi := 3069) e301 r_3 rl_3 (by decide)).1; have o6 := (q_addN (lo := 4) (hi := 3070) e306 r_3 rl_4 (by decide)).1; have o7 := (q_addN (lo := 5) (hi := 3071) e311 r_3 rl_5 (by decide)).1; have o8 := r_3; have o9 := g20; have o10 := r_4; have o11 := r_26; have o12 := r_27; have o13 := r_28; have o14 := r_29; have o15 := r_30; have l16 := tl_1; have l17 := tl_2; have l18 := tl_3; have l19 := tl_4; have l20 := tl_5; have l21 := tl_6; unfold q_r at o8 o9 o10 o11 o12 o13 o14 o15; omega) dL_law_342 (fun v342 e342 => ?_)
        refine q_cVi (pc := 343) [.int v322, .int v327, .int v332, .int v337, .int v342] [] hG (c_X12_feed τ s313 a2 v322 v327 v332 v337 v342 w313.1 tA2) my_X12_feed mv_X12_feed w865 dL_law_343 tA2 (by decide) rfl rfl (Nat.le_of_ble_eq_true rfl) (by decide) (fun v343 s343 p343 => ?_)
        have w343 := w313.trans p343.1 rfl
        have tp343 := zz_tp.of iTC18 iTA18.1 (p313.1.same tA2 rfl iTB18.1) (by have o0 := iTR18; have o1 := gz313; have o2 := (congrArg Int32.toInt (e322.trans e292.symm)); have o3 := (congrArg Int32.toInt (e327.trans e297.symm)); have o4 := (congrArg Int32.toInt (e332.trans e302.symm)); have o5 := (congrArg Int32.toInt (e337.trans e307.symm)); have o6 := (congrArg Int32.toInt (e342.trans e312.symm)); have o7 := iTA18.2; have o8 := iTB18.2; have o9 := p313.2.1; have o10 := rz313; unfold q_r at o7 o8 o9 o10; omega) (hS18.same tA1 rfl hta) (w313.same tA2 rfl htb) Ttb p313.1.2 rfl
        obtain ⟨z343, fz343, gz343⟩ := (p343.2.2.2 TB18 (p313.1.same tA2 rfl iTB18.1))
        have rz343 : q_r z343 0 260 := zz_rng (w343.1 a2 10 1 tA2 4 (by decide)) ff_10_4 fz343
        have tc343 := zz_feed2 tp343 fz343 Tta Ttb tA1 tA2 p343.1.2 rfl p313.2.2.1 p343.2.2.1 (by have o0 := gz313; have o1 := (congrArg Int32.toInt (e322.trans e292.symm)); have o2 := (congrArg Int32.toInt (e327.trans e297.symm)); have o3 := (congrArg Int32.toInt (e332.trans e302.symm)); have o4 := (congrArg Int32.toInt (e337.trans e307.symm)); have o5 := (congrArg Int32.toInt (e342.trans e312.symm)); have o6 := gz343; have o7 := iTR18; have o8 := iTA18.2; have o9 := iTB18.2; have o10 := p313.2.1; have o11 := p343.2.1; have o12 := rz313; have o13 := rz343; unfold q_r at o8 o9 o10 o11 o12 o13; omega) (by have o0 := gz313; have o1 := (congrArg Int32.toInt (e322.trans e292.symm)); have o2 := (congrArg Int32.toInt (e327.trans e297.symm)); have o3 := (congrArg Int32.toInt (e332.trans e302.symm)); have o4 := (congrArg Int32.toInt (e337.trans e307.symm)); have o5 := (congrArg Int32.toInt (e342.trans e312.symm)); have o6 := gz343; have o7 := iTR18; have o8 := iTA18.2; have o9 := iTB18.2; have o10 := p313.2.1; have o11 := p343.2.1; have o12 := rz313; have o13 := rz343; unfold q_r at o8 o9 o10 o11 o12 o13; omega) (by have o0 := gz313; have o1 := (congrArg Int32.toInt (e322.trans e292.symm)); have o2 := (congrArg Int32.toInt (e327.trans e297.symm)); have o3 := (congrArg Int32.toInt (e332.trans e302.symm)); have o4 := (congrArg Int32.toInt (e337.trans e307.symm)); have o5 := (congrArg Int32.toInt (e342.trans e312.symm)); have o6 := gz343; have o7 := iTR18; have o8 := iTA18.2; have o9 := iTB18.2; have o10 := p313.2.1; have o11 := p343.2.1; have o12 := rz313; have o13 := rz343; unfold q_r at o8 o9 o10 o11 o12 o13; omega) (by have o0 := gz313; have o1 := (congrArg Int32.toInt (e322.trans e292.symm)); have o2 := (congrArg Int32.toInt (e327.trans e297.symm)); have o3 := (congrArg Int32.toInt (e332.trans e302.symm)); have o4 := (congrArg Int32.toInt (e337.trans e307.symm)); have o5 := (congrArg Int32.toInt (e342.trans e312.symm)); have o6 := gz343; have o7 := iTR18; have o8 := iTA18.2; have o9 := iTB18.2; have o10 := p313.2.1; have o11 := p343.2.1; have o12 := rz313; have o13 := rz343; unfold q_r at o8 o9 o10 o11 o12 o13; omega) (by have o0 := gz313; have o1 := (congrArg Int32.toInt (e322.trans e292.symm)); have o2 := (congrArg Int32.toInt (e327.trans e297.symm)); have o3 := (congrArg Int32.toInt (e332.trans e302.symm)); have o4 := (congrArg Int32.toInt (e337.trans e307.symm)); have o5 := (congrArg Int32.toInt (e342.trans e312.symm)); have o6 := gz343; have o7 := iTR18; have o8 := iTA18.2; have o9 := iTB18.2; have o10 := p313.2.1; have o11 := p343.2.1; have o12 := rz313; have o13 := rz343; unfold q_r at o8 o9 o10 o11 o12 o13; omega) (by have o0 := iTR18; have o1 := gz313; have o2 := (congrArg Int32.toInt (e322.trans e292.symm)); have o3 := (congrArg Int32.toInt (e327.trans e297.symm)); have o4 := (congrArg Int32.toInt (e332.trans e302.symm)); have o5 := (congrArg Int32.toInt (e337.trans e307.symm)); have o6 := (congrArg Int32.toInt (e342.trans e312.symm)); have o7 := gz343; have o8 := iTA18.2; have o9 := iTB18.2; have o10 := p313.2.1; have o11 := p343.2.1; have o12 := rz313; have o13 := rz343; unfold q_r at o8 o9 o10 o11 o12 o13; omega)
        refine q_pop (pc := 346) hG dL_law_346 rfl ?_
        refine q_goto (pc := 347) 1447 hG dL_law_347 rfl ?_
        refine q_lv [0, 1, 2, 3] rfl ?_
        have ra_31 : zz_rs (fx_N s343) c0 c1 c2 bn := (zz_rs.C (zz_rs.C iRA18 p313.1 rfl Tc0 Tc1 Tc2 (fun j _ => p313.1.2.arr Tbn (by decide) rfl)) p343.1 rfl Tc0 Tc1 Tc2 (fun j _ => p343.1.2.arr Tbn (by decide) rfl))
        have lw_32 : zi_L a1 a2 (fx_N s343) := (zi_L.C w313.1 tA1 tA2 p343.1 rfl (zi_L.C hS18.1 tA1 tA2 p313.1 rfl iLW18))
        have nw_33 : zw_L τ a1 a2 (fx_N s343) := (zw_L.C tA1 tA2 p343.1 rfl (zw_L.C tA1 tA2 p313.1 rfl iNW18))
        exact J1447 s343 KA18 KB18 DA18 DB18 EA18 EB18 z313 z343 w343 ⟨(p343.1.same tA1 rfl (p313.1.same tA1 rfl iKA18.1)), iKA18.2⟩ ⟨(p343.1.same tA2 rfl (p313.1.same tA2 rfl iKB18.1)), iKB18.2⟩ (by have o0 := iKR18; have o1 := iER18; have o2 := iEA18.2; have o3 := iEB18.2; have o4 := iKA18.2; have o5 := iKB18.2; unfold q_r at o2 o3 o4 o5; omega) ⟨(p343.1.same Tbr rfl (p313.1.same Tbr rfl iDA18.1)), iDA18.2⟩ ⟨(p343.1.same Tbn rfl (p313.1.same Tbn rfl iDB18.1)), iDB18.2⟩ ⟨(p343.1.same Tbk rfl (p313.1.same Tbk rfl iEA18.1)), iEA18.2⟩ ⟨(p343.1.same Tbm rfl (p313.1.same Tbm rfl iEB18.1)), iEB18.2⟩ ⟨(p343.1.same tA1 rfl fz313), rz313⟩ ⟨fz343, rz343⟩ (by have o0 := iDR18; have o1 := iDA18.2; have o2 := iDB18.2; unfold q_r at o1 o2; omega) (by have o0 := gz313; have o1 := (congrArg Int32.toInt (e322.trans e292.symm)); have o2 := (congrArg Int32.toInt (e327.trans e297.symm)); have o3 := (congrArg Int32.toInt (e332.trans e302.symm)); have o4 := (congrArg Int32.toInt (e337.trans e307.symm)); have o5 := (congrArg Int32.toInt (e342.trans e312.symm)); have o6 := gz343; have o7 := iTR18; have o8 := iTA18.2; have o9 := iTB18.2; have o10 := p313.2.1; have o11 := p343.2.1; have o12 := rz313; have o13 := rz343; unfold q_r at o8 o9 o10 o11 o12 o13; omega) (by have o0 := iKR18; have o1 := iER18; have o2 := iEA18.2; have o3 := iEB18.2; have o4 := iKA18.2; have o5 := iKB18.2; unfold q_r at o2 o3 o4 o5; omega) tc343 ra_31 lw_32 nw_33 (Or.imp id (fun z => zz_rs.C z p343.1 rfl Te0 Te1 Te2 (fun j _ => p343.1.2.arr Tbm (by decide) rfl)) (Or.imp id (fun z => zz_rs.C z p313.1 rfl Te0 Te1 Te2 (fun j _ => p313.1.2.arr Tbm (by decide) rfl)) iRE18)) ⟨(q_wf.keep w313.1 p343.1.2 tA2 rfl (q_wf.keep hS18.1 p313.1.2 tA2 rfl iV18.1)), (q_kp.keep w313.1 p343.1.2 tA2 rfl (q_kp.keep hS18.1 p313.1.2 tA2 rfl iV18.2))⟩
      by_cases z33_4 : v32.toInt = 4
      · skip
        refine q_tsIn (pc := 33) 4 350 hG dL_law_33 z33_4 (by decide) rfl rfl ?_
        refine q_aload_n (pc := 350) hG dL_law_350 1 rfl ?_
        refine q_aload_n (pc := 351) hG dL_law_351 0 rfl ?_
        refine q_iload_n (pc := 352) hG dL_law_352 3 rfl ?_
        refine q_iconst (pc := 353) hG dL_law_353 ki_1 ?_
        refine q_iadd (pc := 354) hG dL_law_354 (fun v354 e354 => ?_)
        have r_34 := (q_addN (lo := 1) (hi := 3067) e354 r_3 rl_1 (by decide)).2
        refine q_sld (pc := 355) hG hXs hbl hbA (by have o0 := e20; have o1 := (q_subN (lo := (-6)) (hi := 3066) e23 g20 rl_6 (by decide)).1; have o2 := c24; have o3 := (q_addN (lo := 1) (hi := 3067) e354 r_3 rl_1 (by decide)).1; have o4 := r_3; have o5 := g20; have o6 := r_4; have o7 := r_34; have l8 := tl_1; have l9 := tl_6; unfold q_r at o4 o5 o6 o7; omega) dL_law_355 (fun v355 e355 => ?_)
        refine q_cVi (pc := 356) [.int v355] [] hG (c_X11_law τ σ18 a1 v355 hS18.1 tA1) my_X11_law mv_X11_law w300 dL_law_356 tA1 (by decide) rfl rfl (Nat.le_of_ble_eq_true rfl) (by decide) (fun v356 s356 p356 => ?_)
        have w356 := hS18.trans p356.1 rfl
        obtain ⟨z356, fz356, gz356⟩ := (p356.2.2.2 TA18 iTA18.1)
        have rz356 : q_r z356 0 260 := zz_rng (w356.1 a1 9 1 tA1 1 (by decide)) ff_9_1 fz356
        refine q_pop (pc := 359) hG dL_law_359 rfl ?_
        refine q_aload_n (pc := 360) hG dL_law_360 2 rfl ?_
        refine q_aload_n (pc := 361) hG dL_law_361 0 rfl ?_
        refine q_iload_n (pc := 362) hG dL_law_362 3 rfl ?_
        refine q_iconst (pc := 363) hG dL_law_363 ki_1 ?_
        refine q_iadd (pc := 364) hG dL_law_364 (fun v364 e364 => ?_)
        rw [e364.trans e354.symm]
        refine q_sld (pc := 365) hG hXs hbl hbA (by have o0 := e20; have o1 := (q_subN (lo := (-6)) (hi := 3066) e23 g20 rl_6 (by decide)).1; have o2 := c24; have o3 := (q_addN (lo := 1) (hi := 3067) e354 r_3 rl_1 (by decide)).1; have o4 := r_3; have o5 := g20; have o6 := r_4; have o7 := r_34; have l8 := tl_1; have l9 := tl_6; unfold q_r at o4 o5 o6 o7; omega) dL_law_365 (fun v365 e365 => ?_)
        refine q_cVi (pc := 366) [.int v365] [] hG (c_X12_law τ s356 a2 v365 w356.1 tA2 (q_wf.keep hS18.1 p356.1.2 tA2 rfl iV18.1)) my_X12_law mv_X12_law w897 dL_law_366 tA2 (by decide) rfl rfl (Nat.le_of_ble_eq_true rfl) (by decide) (fun v366 s366 p366 => ?_)
        have w366 := w356.trans p366.1 rfl
        have tp366 := zz_tp.of iTC18 iTA18.1 (p356.1.same tA2 rfl iTB18.1) (by have o0 := iTR18; have o1 := gz356; have o2 := (congrArg Int32.toInt (e365.trans e355.symm)); have o3 := iTA18.2; have o4 := iTB18.2; have o5 := p356.2.1; have o6 := rz356; unfold q_r at o3 o4 o5 o6; omega) (hS18.same tA1 rfl hta) (w356.same tA2 rfl htb) Ttb p356.1.2 rfl
        have lw366 : zi_L a1 a2 (fx_N s366) := zi_law2 hS18.1 w356.1 tp366 iTB18.2 Tta Ttb tA1 tA2 p356.1 rfl p366.1 rfl p356.2.2.1 p366.2.2.1 (by have o0 := gz356; have o1 := (congrArg Int32.toInt (e365.trans e355.symm)); have o2 := iTR18; have o3 := iTA18.2; have o4 := iTB18.2; have o5 := p356.2.1; have o6 := rz356; unfold q_r at o3 o4 o5 o6; omega) iLW18
        obtain ⟨z366, fz366, gz366⟩ := (p366.2.2.2.1 TB18 (p356.1.same tA2 rfl iTB18.1))
        have rz366 : q_r z366 0 260 := zz_rng (w366.1 a2 10 1 tA2 4 (by decide)) ff_10_4 fz366
        refine q_pop (pc := 369) hG dL_law_369 rfl ?_
        refine q_goto (pc := 370) 1447 hG dL_law_370 rfl ?_
        refine q_lv [0, 1, 2, 3] rfl ?_
        have ra_35 : zz_rs (fx_N s366) c0 c1 c2 bn := (zz_rs.C (zz_rs.C iRA18 p356.1 rfl Tc0 Tc1 Tc2 (fun j _ => p356.1.2.arr Tbn (by decide) rfl)) p366.1 rfl Tc0 Tc1 Tc2 (fun j _ => p366.1.2.arr Tbn (by decide) rfl))
        have nw_36 : zw_L τ a1 a2 (fx_N s366) := (zw_L.C tA1 tA2 p366.1 rfl (zw_L.C tA1 tA2 p356.1 rfl iNW18))
        exact J1447 s366 KA18 KB18 DA18 DB18 EA18 EB18 z356 z366 w366 ⟨(p366.1.same tA1 rfl (p356.1.same tA1 rfl iKA18.1)), iKA18.2⟩ ⟨(p366.1.same tA2 rfl (p356.1.same tA2 rfl iKB18.1)), iKB18.2⟩ (by have o0 := iKR18; have o1 := iER18; have o2 := iEA18.2; have o3 := iEB18.2; have o4 := iKA18.2; have o5 := iKB18.2; unfold q_r at o2 o3 o4 o5; omega) ⟨(p366.1.same Tbr rfl (p356.1.same Tbr rfl iDA18.1)), iDA18.2⟩ ⟨(p366.1.same Tbn rfl (p356.1.same Tbn rfl iDB18.1)), iDB18.2⟩ ⟨(p366.1.same Tbk rfl (p356.1.same Tbk rfl iEA18.1)), iEA18.2⟩ ⟨(p366.1.same Tbm rfl (p356.1.same Tbm rfl iEB18.1)), iEB18.2⟩ ⟨(p366.1.same tA1 rfl fz356), rz356⟩ ⟨fz366, rz366⟩ (by have o0 := iDR18; have o1 := iDA18.2; have o2 := iDB18.2; unfold q_r at o1 o2; omega) (by have o0 := gz356; have o1 := (congrArg Int32.toInt (e365.trans e355.symm)); have o2 := gz366; have o3 := iTR18; have o4 := iTA18.2; have o5 := iTB18.2; have o6 := p356.2.1; have o7 := p366.2.1; have o8 := rz356; have o9 := rz366; unfold q_r at o4 o5 o6 o7 o8 o9; omega) (by have o0 := iKR18; have o1 := iER18; have o2 := iEA18.2; have o3 := iEB18.2; have o4 := iKA18.2; have o5 := iKB18.2; unfold q_r at o2 o3 o4 o5; omega) (zz_tc.less (zz_tc.keep (zz_tc.keep iTC18 p356.1.2 Tta Ttb rfl rfl) p366.1.2 Tta Ttb rfl rfl) (by have o0 := iTR18; have o1 := gz356; have o2 := (congrArg Int32.toInt (e365.trans e355.symm)); have o3 := gz366; have o4 := iTA18.2; have o5 := iTB18.2; have o6 := p356.2.1; have o7 := p366.2.1; have o8 := rz356; have o9 := rz366; unfold q_r at o4 o5 o6 o7 o8 o9; omega)) ra_35 lw366 nw_36 (Or.imp id (fun z => zz_rs.C z p366.1 rfl Te0 Te1 Te2 (fun j _ => p366.1.2.arr Tbm (by decide) rfl)) (Or.imp id (fun z => zz_rs.C z p356.1 rfl Te0 Te1 Te2 (fun j _ => p356.1.2.arr Tbm (by decide) rfl)) iRE18)) ⟨p366.2.2.2.2, (q_kp.keep w356.1 p366.1.2 tA2 rfl (q_kp.keep hS18.1 p356.1.2 tA2 rfl iV18.2))⟩
      by_cases z33_5 : v32.toInt = 5
      · skip
        refine q_tsIn (pc := 33) 5 373 hG dL_law_33 z33_5 (by decide) rfl rfl ?_
        refine q_aload_n (pc := 373) hG dL_law_373 1 rfl ?_
        refine q_aload_n (pc := 374) hG dL_law_374 0 rfl ?_
        refine q_iload_n (pc := 375) hG dL_law_375 3 rfl ?_
        refine q_iconst (pc := 376) hG dL_law_376 ki_1 ?_
        refine q_iadd (pc := 377) hG dL_law_377 (fun v377 e377 => ?_)
        have r_37 := (q_addN (lo := 1) (hi := 3067) e377 r_3 rl_1 (by decide)).2
        refine q_sld (pc := 378) hG hXs hbl hbA (by have o0 := e20; have o1 := (q_subN (lo := (-6)) (hi := 3066) e23 g20 rl_6 (by decide)).1; have o2 := c24; have o3 := (q_addN (lo := 1) (hi := 3067) e377 r_3 rl_1 (by decide)).1; have o4 := r_3; have o5 := g20; have o6 := r_4; have o7 := r_37; have l8 := tl_1; have l9 := tl_6; unfold q_r at o4 o5 o6 o7; omega) dL_law_378 (fun v378 e378 => ?_)
        refine q_aload_n (pc := 379) hG dL_law_379 0 rfl ?_
        refine q_iload_n (pc := 380) hG dL_law_380 3 rfl ?_
        refine q_iconst (pc := 381) hG dL_law_381 ki_2 ?_
        refine q_iadd (pc := 382) hG dL_law_382 (fun v382 e382 => ?_)
        have r_38 := (q_addN (lo := 2) (hi := 3068) e382 r_3 rl_2 (by decide)).2
        refine q_sld (pc := 383) hG hXs hbl hbA (by have o0 := e20; have o1 := (q_subN (lo := (-6)) (hi := 3066) e23 g20 rl_6 (by decide)).1; have o2 := c24; have o3 := (q_addN (lo := 1) (hi := 3067) e377 r_3 rl_1 (by decide)).1; have o4 := (q_addN (lo := 2) (hi := 3068) e382 r_3 rl_2 (by decide)).1; have o5 := r_3; have o6 := g20; have o7 := r_4; have o8 := r_37; have o9 := r_38; have l10 := tl_1; have l11 := tl_2; have l12 := tl_6; unfold q_r at o5 o6 o7 o8 o9; omega) dL_law_383 (fun v383 e383 => ?_)
        have J392 : ∀ (p392_s0 : Int32), (q_r p392_s0 0 1) → ((v383.toInt = 0 ∧ p392_s0.toInt = 0) ∨ (v383.toInt ≠ 0 ∧ p392_s0.toInt = 1)) → q_O X 118 11908 τ σ18 392 [(0, .ref b), (1, .ref a1), (2, .ref a2), (3, .int p18_3)] [.int p392_s0, .int v378, .ref a1] := by
          intro p392_s0 r392_s0 iB392
          refine q_aload_n (pc := 392) hG dL_law_392 0 rfl ?_
          refine q_iload_n (pc := 393) hG dL_law_393 3 rfl ?_
          refine q_iconst (pc := 394) hG dL_law_394 ki_3 ?_
          refine q_iadd (pc := 395) hG dL_law_395 (fun v395 e395 => ?_)
          have r_39 := (q_addN (lo := 3) (hi := 3069) e395 r_3 rl_3 (by decide)).2
          refine q_sld (pc := 396) hG hXs hbl hbA (by have o0 := e20; have o1 := (q_subN (lo := (-6)) (hi := 3066) e23 g20 rl_6 (by decide)).1; have o2 := c24; have o3 := (q_addN (lo := 1) (hi := 3067) e377 r_3 rl_1 (by decide)).1; have o4 := (q_addN (lo := 2) (hi := 3068) e382 r_3 rl_2 (by decide)).1; have o5 := (q_addN (lo := 3) (hi := 3069) e395 r_3 rl_3 (by decide)).1; have o6 := r_3; have o7 := g20; have o8 := r_4; have o9 := r_37; have o10 := r_38; have o11 := r_39; have l12 := tl_1; have l13 := tl_2; have l14 := tl_3; have l15 := tl_6; unfold q_r at o6 o7 o8 o9 o10 o11; omega) dL_law_396 (fun v396 e396 => ?_)
          refine q_cVi (pc := 397) [.int v378, .int p392_s0, .int v396] [] hG (c_X11_party τ σ18 a1 v378 p392_s0 v396 hS18.1 tA1 r392_s0) my_X11_party mv_X11_party w371 dL_law_397 tA1 (by decide) rfl rfl (Nat.le_of_ble_eq_true rfl) (by decide) (fun v397 s397 p397 => ?_)
          have w397 := hS18.trans p397.1 rfl
          refine q_pop (pc := 400) hG dL_law_400 rfl ?_
          refine q_aload_n (pc := 401) hG dL_law_401 2 rfl ?_
          refine q_aload_n (pc := 402) hG dL_law_402 0 rfl ?_
          refine q_iload_n (pc := 403) hG dL_law_403 3 rfl ?_
          refine q_iconst (pc := 404) hG dL_law_404 ki_1 ?_
          refine q_iadd (pc := 405) hG dL_law_405 (fun v405 e405 => ?_)
          rw [e405.trans e377.symm]
          refine q_sld (pc := 406) hG hXs hbl hbA (by have o0 := e20; have o1 := (q_subN (lo := (-6)) (hi := 3066) e23 g20 rl_6 (by decide)).1; have o2 := c24; have o3 := (q_addN (lo := 1) (hi := 3067) e377 r_3 rl_1 (by decide)).1; have o4 := (q_addN (lo := 2) (hi := 3068) e382 r_3 rl_2 (by decide)).1; have o5 := (q_addN (lo := 3) (hi := 3069) e395 r_3 rl_3 (by decide)).1; have o6 := r_3; have o7 := g20; have o8 := r_4; have o9 := r_37; have o10 := r_38; have o11 := r_39; have l12 := tl_1; have l13 := tl_2; have l14 := tl_3; have l15 := tl_6; unfold q_r at o6 o7 o8 o9 o10 o11; omega) dL_law_406 (fun v406 e406 => ?_)
          refine q_aload_n (pc := 407) hG dL_law_407 0 rfl ?_
          refine q_iload_n (pc := 408) hG dL_law_408 3 rfl ?_
          refine q_iconst (pc := 409) hG dL_law_409 ki_2 ?_
          refine q_iadd (pc := 410) hG dL_law_410 (fun v410 e410 => ?_)
          rw [e410.trans e382.symm]
          refine q_sld (pc := 411) hG hXs hbl hbA (by have o0 := e20; have o1 := (q_subN (lo := (-6)) (hi := 3066) e23 g20 rl_6 (by decide)).1; have o2 := c24; have o3 := (q_addN (lo := 1) (hi := 3067) e377 r_3 rl_1 (by decide)).1; have o4 := (q_addN (lo := 2) (hi := 3068) e382 r_3 rl_2 (by decide)).1; have o5 := (q_addN (lo := 3) (hi := 3069) e395 r_3 rl_3 (by decide)).1; have o6 := r_3; have o7 := g20; have o8 := r_4; have o9 := r_37; have o10 := r_38; have o11 := r_39; have l12 := tl_1; have l13 := tl_2; have l14 := tl_3; have l15 := tl_6; unfold q_r at o6 o7 o8 o9 o10 o11; omega) dL_law_411 (fun v411 e411 => ?_)
          have J420 : ∀ (p420_s0 : Int32), (q_r p420_s0 0 1) → ((v411.toInt = 0 ∧ p420_s0.toInt = 0) ∨ (v411.toInt ≠ 0 ∧ p420_s0.toInt = 1)) → q_O X 118 11908 τ s397 420 [(0, .ref b), (1, .ref a1), (2, .ref a2), (3, .int p18_3)] [.int p420_s0, .int v406, .ref a2] := by
            intro p420_s0 r420_s0 iB420
            refine q_aload_n (pc := 420) hG dL_law_420 0 rfl ?_
            refine q_iload_n (pc := 421) hG dL_law_421 3 rfl ?_
            refine q_iconst (pc := 422) hG dL_law_422 ki_3 ?_
            refine q_iadd (pc := 423) hG dL_law_423 (fun v423 e423 => ?_)
            rw [e423.trans e395.symm]
            refine q_sld (pc := 424) hG hXs hbl hbA (by have o0 := e20; have o1 := (q_subN (lo := (-6)) (hi := 3066) e23 g20 rl_6 (by decide)).1; have o2 := c24; have o3 := (q_addN (lo := 1) (hi := 3067) e377 r_3 rl_1 (by decide)).1; have o4 := (q_addN (lo := 2) (hi := 3068) e382 r_3 rl_2 (by decide)).1; have o5 := (q_addN (lo := 3) (hi := 3069) e395 r_3 rl_3 (by decide)).1; have o6 := r_3; have o7 := g20; have o8 := r_4; have o9 := r_37; have o10 := r_38; have o11 := r_39; have l12 := tl_1; have l13 := tl_2; have l14 := tl_3; have l15 := tl_6; unfold q_r at o6 o7 o8 o9 o10 o11; omega) dL_law_424 (fun v424 e424 => ?_)
            refine q_cVi (pc := 425) [.int v406, .int p420_s0, .int v424] [] hG (c_X12_party τ s397 a2 v406 p420_s0 v424 w397.1 tA2 r420_s0) my_X12_party mv_X12_party w839 dL_law_425 tA2 (by decide) rfl rfl (Nat.le_of_ble_eq_true rfl) (by decide) (fun v425 s425 p425 => ?_)
            have w425 := w397.trans p425.1 rfl
            have nw425 : v397.toInt = v425.toInt ∧ zw_L τ a1 a2 (fx_N s425) := zw_party (zw_H.mk hS18.1 tA1 tA2 p397.1 rfl p425.1 rfl iNW18) (by have q := r392_s0; unfold q_r at q; omega) p397.2.2.1 p425.2.2.1 (by have o0 := (congrArg Int32.toInt (e406.trans e378.symm)); omega) (by have o0 := iB392; have o1 := (congrArg Int32.toInt (e411.trans e383.symm)); have o2 := iB420; have o3 := r392_s0; have o4 := r420_s0; unfold q_r at o3 o4; omega) (by have o0 := (congrArg Int32.toInt (e424.trans e396.symm)); omega)
            refine q_pop (pc := 428) hG dL_law_428 rfl ?_
            refine q_goto (pc := 429) 1447 hG dL_law_429 rfl ?_
            refine q_lv [0, 1, 2, 3] rfl ?_
            have ra_40 : zz_rs (fx_N s425) c0 c1 c2 bn := (zz_rs.C (zz_rs.C iRA18 p397.1 rfl Tc0 Tc1 Tc2 (fun j _ => p397.1.2.arr Tbn (by decide) rfl)) p425.1 rfl Tc0 Tc1 Tc2 (fun j hj => (p425.2.2.2.1 bn (w397.same tA2 rfl hbn)) j (Or.inl hj)))
            have lw_41 : zi_L a1 a2 (fx_N s425) := (zi_L.C w397.1 tA1 tA2 p425.1 rfl (zi_L.C hS18.1 tA1 tA2 p397.1 rfl iLW18))
            exact J1447 s425 KA18 KB18 DA18 DB18 EA18 EB18 TA18 TB18 w425 ⟨(p425.1.same tA1 rfl (p397.1.same tA1 rfl iKA18.1)), iKA18.2⟩ ⟨(p425.1.same tA2 rfl (p397.1.same tA2 rfl iKB18.1)), iKB18.2⟩ (by have o0 := iKR18; have o1 := iER18; have o2 := iEA18.2; have o3 := iEB18.2; have o4 := iKA18.2; have o5 := iKB18.2; unfold q_r at o2 o3 o4 o5; omega) ⟨(p425.1.same Tbr rfl (p397.1.same Tbr rfl iDA18.1)), iDA18.2⟩ ⟨((p425.2.2.2.1 bn (w397.same tA2 rfl hbn) _ (Or.inr (by decide))).trans (p397.1.same Tbn rfl iDB18.1)), iDB18.2⟩ ⟨(p425.1.same Tbk rfl (p397.1.same Tbk rfl iEA18.1)), iEA18.2⟩ ⟨(p425.1.same Tbm rfl (p397.1.same Tbm rfl iEB18.1)), iEB18.2⟩ ⟨(p425.1.same tA1 rfl (p397.1.same tA1 rfl iTA18.1)), iTA18.2⟩ ⟨(p425.1.same tA2 rfl (p397.1.same tA2 rfl iTB18.1)), iTB18.2⟩ (by have o0 := iDR18; have o1 := iDA18.2; have o2 := iDB18.2; unfold q_r at o1 o2; omega) (by have o0 := iTR18; have o1 := iTA18.2; have o2 := iTB18.2; unfold q_r at o1 o2; omega) (by have o0 := iKR18; have o1 := iER18; have o2 := iEA18.2; have o3 := iEB18.2; have o4 := iKA18.2; have o5 := iKB18.2; unfold q_r at o2 o3 o4 o5; omega) (zz_tc.keep (zz_tc.keep iTC18 p397.1.2 Tta Ttb rfl rfl) p425.1.2 Tta Ttb rfl rfl) ra_40 lw_41 nw425.2 (Or.imp id (fun z => zz_rs.C z p425.1 rfl Te0 Te1 Te2 (fun j _ => p425.1.2.arr Tbm (by decide) rfl)) (Or.imp id (fun z => zz_rs.C z p397.1 rfl Te0 Te1 Te2 (fun j _ => p397.1.2.arr Tbm (by decide) rfl)) iRE18)) ⟨(q_wf.keep w397.1 p425.1.2 tA2 rfl (q_wf.keep hS18.1 p397.1.2 tA2 rfl iV18.1)), (q_kp.keep w397.1 p425.1.2 tA2 rfl (q_kp.keep hS18.1 p397.1.2 tA2 rfl iV18.2))⟩
          refine q_if_eq (pc := 412) hG 419 dL_law_412 rfl ?_ ?_
          · intro c412
            refine q_iconst (pc := 419) hG dL_law_419 ki_0 ?_
            refine q_lv [0, 1, 2, 3] rfl ?_
            have r_42 := q_zeq c412
            exact J420 0 (q_r.mono rl_0 (by decide)) (by have o0 := (congrArg Int32.toInt (e411.trans e383.symm)); have o1 := c412; have o2 := iB392; have o3 := r392_s0; have o4 := r_42; have l5 := tl_0; unfold q_r at o3 o4; omega)
          intro c412
          refine q_iconst (pc := 415) hG dL_law_415 ki_1 ?_
          refine q_goto (pc := 416) 420 hG dL_law_416 rfl ?_
          refine q_lv [0, 1, 2, 3] rfl ?_
          exact J420 1 (q_r.mono rl_1 (by decide)) (by have o0 := (congrArg Int32.toInt (e411.trans e383.symm)); have o1 := c412; have o2 := iB392; have o3 := r392_s0; have l4 := tl_1; unfold q_r at o3; omega)
        refine q_if_eq (pc := 384) hG 391 dL_law_384 rfl ?_ ?_
        · intro c384
          refine q_iconst (pc := 391) hG dL_law_391 ki_0 ?_
          refine q_lv [0, 1, 2, 3] rfl ?_
          have r_43 := q_zeq c384
          exact J392 0 (q_r.mono rl_0 (by decide)) (by have o0 := c384; have o1 := r_43; have l2 := tl_0; unfold q_r at o1; omega)
        intro c384
        refine q_iconst (pc := 387) hG dL_law_387 ki_1 ?_
        refine q_goto (pc := 388) 392 hG dL_law_388 rfl ?_
        refine q_lv [0, 1, 2, 3] rfl ?_
        exact J392 1 (q_r.mono rl_1 (by decide)) (by have o0 := c384; have l1 := tl_1; omega)
      by_cases z33_6 : v32.toInt = 6
      · skip
        refine q_tsIn (pc := 33) 6 432 hG dL_law_33 z33_6 (by decide) rfl rfl ?_
        refine q_aload_n (pc := 432) hG dL_law_432 1 rfl ?_
        refine q_aload_n (pc := 433) hG dL_law_433 0 rfl ?_
        refine q_iload_n (pc := 434) hG dL_law_434 3 rfl ?_
        refine q_iconst (pc := 435) hG dL_law_435 ki_1 ?_
        refine q_iadd (pc := 436) hG dL_law_436 (fun v436 e436 => ?_)
        have r_44 := (q_addN (lo := 1) (hi := 3067) e436 r_3 rl_1 (by decide)).2
        refine q_sld (pc := 437) hG hXs hbl hbA (by have o0 := e20; have o1 := (q_subN (lo := (-6)) (hi := 3066) e23 g20 rl_6 (by decide)).1; have o2 := c24; have o3 := (q_addN (lo := 1) (hi := 3067) e436 r_3 rl_1 (by decide)).1; have o4 := r_3; have o5 := g20; have o6 := r_4; have o7 := r_44; have l8 := tl_1; have l9 := tl_6; unfold q_r at o4 o5 o6 o7; omega) dL_law_437 (fun v437 e437 => ?_)
        refine q_aload_n (pc := 438) hG dL_law_438 0 rfl ?_
        refine q_iload_n (pc := 439) hG dL_law_439 3 rfl ?_
        refine q_iconst (pc := 440) hG dL_law_440 ki_2 ?_
        refine q_iadd (pc := 441) hG dL_law_441 (fun v441 e441 => ?_)
        have r_45 := (q_addN (lo := 2) (hi := 3068) e441 r_3 rl_2 (by decide)).2
        refine q_sld (pc := 442) hG hXs hbl hbA (by have o0 := e20; have o1 := (q_subN (lo := (-6)) (hi := 3066) e23 g20 rl_6 (by decide)).1; have o2 := c24; have o3 := (q_addN (lo := 1) (hi := 3067) e436 r_3 rl_1 (by decide)).1; have o4 := (q_addN (lo := 2) (hi := 3068) e441 r_3 rl_2 (by decide)).1; have o5 := r_3; have o6 := g20; have o7 := r_4; have o8 := r_44; have o9 := r_45; have l10 := tl_1; have l11 := tl_2; have l12 := tl_6; unfold q_r at o5 o6 o7 o8 o9; omega) dL_law_442 (fun v442 e442 => ?_)
        refine q_aload_n (pc := 443) hG dL_law_443 0 rfl ?_
        refine q_iload_n (pc := 444) hG dL_law_444 3 rfl ?_
        refine q_iconst (pc := 445) hG dL_law_445 ki_3 ?_
        refine q_iadd (pc := 446) hG dL_law_446 (fun v446 e446 => ?_)
        have r_46 := (q_addN (lo := 3) (hi := 3069) e446 r_3 rl_3 (by decide)).2
        refine q_sld (pc := 447) hG hXs hbl hbA (by have o0 := e20; have o1 := (q_subN (lo := (-6)) (hi := 3066) e23 g20 rl_6 (by decide)).1; have o2 := c24; have o3 := (q_addN (lo := 1) (hi := 3067) e436 r_3 rl_1 (by decide)).1; have o4 := (q_addN (lo := 2) (hi := 3068) e441 r_3 rl_2 (by decide)).1; have o5 := (q_addN (lo := 3) (hi := 3069) e446 r_3 rl_3 (by decide)).1; have o6 := r_3; have o7 := g20; have o8 := r_4; have o9 := r_44; have o10 := r_45; have o11 := r_46; have l12 := tl_1; have l13 := tl_2; have l14 := tl_3; have l15 := tl_6; unfold q_r at o6 o7 o8 o9 o10 o11; omega) dL_law_447 (fun v447 e447 => ?_)
        refine q_cVi (pc := 448) [.int v437, .int v442, .int v447] [] hG (c_X11_car τ σ18 a1 v437 v442 v447 hS18.1 tA1) my_X11_car mv_X11_car w376 dL_law_448 tA1 (by decide) rfl rfl (Nat.le_of_ble_eq_true rfl) (by decide) (fun v448 s448 p448 => ?_)
        have w448 := hS18.trans p448.1 rfl
        refine q_pop (pc := 451) hG dL_law_451 rfl ?_
        refine q_aload_n (pc := 452) hG dL_law_452 2 rfl ?_
        refine q_aload_n (pc := 453) hG dL_law_453 0 rfl ?_
        refine q_iload_n (pc := 454) hG dL_law_454 3 rfl ?_
        refine q_iconst (pc := 455) hG dL_law_455 ki_1 ?_
        refine q_iadd (pc := 456) hG dL_law_456 (fun v456 e456 => ?_)
        rw [e456.trans e436.symm]
        refine q_sld (pc := 457) hG hXs hbl hbA (by have o0 := e20; have o1 := (q_subN (lo := (-6)) (hi := 3066) e23 g20 rl_6 (by decide)).1; have o2 := c24; have o3 := (q_addN (lo := 1) (hi := 3067) e436 r_3 rl_1 (by decide)).1; have o4 := (q_addN (lo := 2) (hi := 3068) e441 r_3 rl_2 (by decide)).1; have o5 := (q_addN (lo := 3) (hi := 3069) e446 r_3 rl_3 (by decide)).1; have o6 := r_3; have o7 := g20; have o8 := r_4; have o9 := r_44; have o10 := r_45; have o11 := r_46; have l12 := tl_1; have l13 := tl_2; have l14 := tl_3; have l15 := tl_6; unfold q_r at o6 o7 o8 o9 o10 o11; omega) dL_law_457 (fun v457 e457 => ?_)
        refine q_aload_n (pc := 458) hG dL_law_458 0 rfl ?_
        refine q_iload_n (pc := 459) hG dL_law_459 3 rfl ?_
        refine q_iconst (pc := 460) hG dL_law_460 ki_2 ?_
        refine q_iadd (pc := 461) hG dL_law_461 (fun v461 e461 => ?_)
        rw [e461.trans e441.symm]
        refine q_sld (pc := 462) hG hXs hbl hbA (by have o0 := e20; have o1 := (q_subN (lo := (-6)) (hi := 3066) e23 g20 rl_6 (by decide)).1; have o2 := c24; have o3 := (q_addN (lo := 1) (hi := 3067) e436 r_3 rl_1 (by decide)).1; have o4 := (q_addN (lo := 2) (hi := 3068) e441 r_3 rl_2 (by decide)).1; have o5 := (q_addN (lo := 3) (hi := 3069) e446 r_3 rl_3 (by decide)).1; have o6 := r_3; have o7 := g20; have o8 := r_4; have o9 := r_44; have o10 := r_45; have o11 := r_46; have l12 := tl_1; have l13 := tl_2; have l14 := tl_3; have l15 := tl_6; unfold q_r at o6 o7 o8 o9 o10 o11; omega) dL_law_462 (fun v462 e462 => ?_)
        refine q_aload_n (pc := 463) hG dL_law_463 0 rfl ?_
        refine q_iload_n (pc := 464) hG dL_law_464 3 rfl ?_
        refine q_iconst (pc := 465) hG dL_law_465 ki_3 ?_
        refine q_iadd (pc := 466) hG dL_law_466 (fun v466 e466 => ?_)
        rw [e466.trans e446.symm]
        refine q_sld (pc := 467) hG hXs hbl hbA (by have o0 := e20; have o1 := (q_subN (lo := (-6)) (hi := 3066) e23 g20 rl_6 (by decide)).1; have o2 := c24; have o3 := (q_addN (lo := 1) (hi := 3067) e436 r_3 rl_1 (by decide)).1; have o4 := (q_addN (lo := 2) (hi := 3068) e441 r_3 rl_2 (by decide)).1; have o5 := (q_addN (lo := 3) (hi := 3069) e446 r_3 rl_3 (by decide)).1; have o6 := r_3; have o7 := g20; have o8 := r_4; have o9 := r_44; have o10 := r_45; have o11 := r_46; have l12 := tl_1; have l13 := tl_2; have l14 := tl_3; have l15 := tl_6; unfold q_r at o6 o7 o8 o9 o10 o11; omega) dL_law_467 (fun v467 e467 => ?_)
        refine q_cVi (pc := 468) [.int v457, .int v462, .int v467] [] hG (c_X12_car τ s448 a2 v457 v462 v467 w448.1 tA2) my_X12_car mv_X12_car w846 dL_law_468 tA2 (by decide) rfl rfl (Nat.le_of_ble_eq_true rfl) (by decide) (fun v468 s468 p468 => ?_)
        have w468 := w448.trans p468.1 rfl
        have nw468 : v448.toInt = v468.toInt ∧ zw_L τ a1 a2 (fx_N s468) := zw_car (zw_H.mk hS18.1 tA1 tA2 p448.1 rfl p468.1 rfl iNW18) p448.2.2.1 p468.2.2.1 (by have o0 := (congrArg Int32.toInt (e457.trans e437.symm)); omega) (by have o0 := (congrArg Int32.toInt (e462.trans e442.symm)); omega) (by have o0 := (congrArg Int32.toInt (e467.trans e447.symm)); omega)
        refine q_pop (pc := 471) hG dL_law_471 rfl ?_
        refine q_goto (pc := 472) 1447 hG dL_law_472 rfl ?_
        refine q_lv [0, 1, 2, 3] rfl ?_
        have ra_47 : zz_rs (fx_N s468) c0 c1 c2 bn := (zz_rs.C (zz_rs.C iRA18 p448.1 rfl Tc0 Tc1 Tc2 (fun j _ => p448.1.2.arr Tbn (by decide) rfl)) p468.1 rfl Tc0 Tc1 Tc2 (fun j hj => (p468.2.2.2.1 bn (w448.same tA2 rfl hbn)) j (Or.inl hj)))
        have lw_48 : zi_L a1 a2 (fx_N s468) := (zi_L.C w448.1 tA1 tA2 p468.1 rfl (zi_L.C hS18.1 tA1 tA2 p448.1 rfl iLW18))
        exact J1447 s468 KA18 KB18 DA18 DB18 EA18 EB18 TA18 TB18 w468 ⟨(p468.1.same tA1 rfl (p448.1.same tA1 rfl iKA18.1)), iKA18.2⟩ ⟨(p468.1.same tA2 rfl (p448.1.same tA2 rfl iKB18.1)), iKB18.2⟩ (by have o0 := iKR18; have o1 := iER18; have o2 := iEA18.2; have o3 := iEB18.2; have o4 := iKA18.2; have o5 := iKB18.2; unfold q_r at o2 o3 o4 o5; omega) ⟨(p468.1.same Tbr rfl (p448.1.same Tbr rfl iDA18.1)), iDA18.2⟩ ⟨((p468.2.2.2.1 bn (w448.same tA2 rfl hbn) _ (Or.inr (by decide))).trans (p448.1.same Tbn rfl iDB18.1)), iDB18.2⟩ ⟨(p468.1.same Tbk rfl (p448.1.same Tbk rfl iEA18.1)), iEA18.2⟩ ⟨(p468.1.same Tbm rfl (p448.1.same Tbm rfl iEB18.1)), iEB18.2⟩ ⟨(p468.1.same tA1 rfl (p448.1.same tA1 rfl iTA18.1)), iTA18.2⟩ ⟨(p468.1.same tA2 rfl (p448.1.same tA2 rfl iTB18.1)), iTB18.2⟩ (by have o0 := iDR18; have o1 := iDA18.2; have o2 := iDB18.2; unfold q_r at o1 o2; omega) (by have o0 := iTR18; have o1 := iTA18.2; have o2 := iTB18.2; unfold q_r at o1 o2; omega) (by have o0 := iKR18; have o1 := iER18; have o2 := iEA18.2; have o3 := iEB18.2; have o4 := iKA18.2; have o5 := iKB18.2; unfold q_r at o2 o3 o4 o5; omega) (zz_tc.keep (zz_tc.keep iTC18 p448.1.2 Tta Ttb rfl rfl) p468.1.2 Tta Ttb rfl rfl) ra_47 lw_48 nw468.2 (Or.imp id (fun z => zz_rs.C z p468.1 rfl Te0 Te1 Te2 (fun j _ => p468.1.2.arr Tbm (by decide) rfl)) (Or.imp id (fun z => zz_rs.C z p448.1 rfl Te0 Te1 Te2 (fun j _ => p448.1.2.arr Tbm (by decide) rfl)) iRE18)) ⟨(q_wf.keep w448.1 p468.1.2 tA2 rfl (q_wf.keep hS18.1 p448.1.2 tA2 rfl iV18.1)), (q_kp.keep w448.1 p468.1.2 tA2 rfl (q_kp.keep hS18.1 p448.1.2 tA2 rfl iV18.2))⟩
      by_cases z33_7 : v32.toInt = 7
      · skip
        refine q_tsIn (pc := 33) 7 475 hG dL_law_33 z33_7 (by decide) rfl rfl ?_
        refine q_aload_n (pc := 475) hG dL_law_475 1 rfl ?_
        refine q_aload_n (pc := 476) hG dL_law_476 0 rfl ?_
        refine q_iload_n (pc := 477) hG dL_law_477 3 rfl ?_
        refine q_iconst (pc := 478) hG dL_law_478 ki_1 ?_
        refine q_iadd (pc := 479) hG dL_law_479 (fun v479 e479 => ?_)
        have r_49 := (q_addN (lo := 1) (hi := 3067) e479 r_3 rl_1 (by decide)).2
        refine q_sld (pc := 480) hG hXs hbl hbA (by have o0 := e20; have o1 := (q_subN (lo := (-6)) (hi := 3066) e23 g20 rl_6 (by decide)).1; have o2 := c24; have o3 := (q_addN (lo := 1) (hi := 3067) e479 r_3 rl_1 (by decide)).1; have o4 := r_3; have o5 := g20; have o6 := r_4; have o7 := r_49; have l8 := tl_1; have l9 := tl_6; unfold q_r at o4 o5 o6 o7; omega) dL_law_480 (fun v480 e480 => ?_)
        refine q_cVi (pc := 481) [.int v480] [] hG (c_X11_cones τ σ18 a1 v480 hS18.1 tA1) my_X11_cones mv_X11_cones w380 dL_law_481 tA1 (by decide) rfl rfl (Nat.le_of_ble_eq_true rfl) (by decide) (fun v481 s481 p481 => ?_)
        have w481 := hS18.trans p481.1 rfl
        refine q_pop (pc := 484) hG dL_law_484 rfl ?_
        refine q_aload_n (pc := 485) hG dL_law_485 2 rfl ?_
        refine q_aload_n (pc := 486) hG dL_law_486 0 rfl ?_
        refine q_iload_n (pc := 487) hG dL_law_487 3 rfl ?_
        refine q_iconst (pc := 488) hG dL_law_488 ki_1 ?_
        refine q_iadd (pc := 489) hG dL_law_489 (fun v489 e489 => ?_)
        rw [e489.trans e479.symm]
        refine q_sld (pc := 490) hG hXs hbl hbA (by have o0 := e20; have o1 := (q_subN (lo := (-6)) (hi := 3066) e23 g20 rl_6 (by decide)).1; have o2 := c24; have o3 := (q_addN (lo := 1) (hi := 3067) e479 r_3 rl_1 (by decide)).1; have o4 := r_3; have o5 := g20; have o6 := r_4; have o7 := r_49; have l8 := tl_1; have l9 := tl_6; unfold q_r at o4 o5 o6 o7; omega) dL_law_490 (fun v490 e490 => ?_)
        refine q_cVi (pc := 491) [.int v490] [] hG (c_X12_cones τ s481 a2 v490 w481.1 tA2) my_X12_cones mv_X12_cones w850 dL_law_491 tA2 (by decide) rfl rfl (Nat.le_of_ble_eq_true rfl) (by decide) (fun v491 s491 p491 => ?_)
        have w491 := w481.trans p491.1 rfl
        have nw491 : v481.toInt = v491.toInt ∧ zw_L τ a1 a2 (fx_N s491) := zw_cones (zw_H.mk hS18.1 tA1 tA2 p481.1 rfl p491.1 rfl iNW18) p481.2.2.1 p491.2.2.1 (by have o0 := (congrArg Int32.toInt (e490.trans e480.symm)); omega)
        refine q_pop (pc := 494) hG dL_law_494 rfl ?_
        refine q_goto (pc := 495) 1447 hG dL_law_495 rfl ?_
        refine q_lv [0, 1, 2, 3] rfl ?_
        have ra_50 : zz_rs (fx_N s491) c0 c1 c2 bn := (zz_rs.C (zz_rs.C iRA18 p481.1 rfl Tc0 Tc1 Tc2 (fun j _ => p481.1.2.arr Tbn (by decide) rfl)) p491.1 rfl Tc0 Tc1 Tc2 (fun j hj => (p491.2.2.2.1 bn (w481.same tA2 rfl hbn)) j (Or.inl hj)))
        have lw_51 : zi_L a1 a2 (fx_N s491) := (zi_L.C w481.1 tA1 tA2 p491.1 rfl (zi_L.C hS18.1 tA1 tA2 p481.1 rfl iLW18))
        exact J1447 s491 KA18 KB18 DA18 DB18 EA18 EB18 TA18 TB18 w491 ⟨(p491.1.same tA1 rfl (p481.1.same tA1 rfl iKA18.1)), iKA18.2⟩ ⟨(p491.1.same tA2 rfl (p481.1.same tA2 rfl iKB18.1)), iKB18.2⟩ (by have o0 := iKR18; have o1 := iER18; have o2 := iEA18.2; have o3 := iEB18.2; have o4 := iKA18.2; have o5 := iKB18.2; unfold q_r at o2 o3 o4 o5; omega) ⟨(p491.1.same Tbr rfl (p481.1.same Tbr rfl iDA18.1)), iDA18.2⟩ ⟨((p491.2.2.2.1 bn (w481.same tA2 rfl hbn) _ (Or.inr (by decide))).trans (p481.1.same Tbn rfl iDB18.1)), iDB18.2⟩ ⟨(p491.1.same Tbk rfl (p481.1.same Tbk rfl iEA18.1)), iEA18.2⟩ ⟨(p491.1.same Tbm rfl (p481.1.same Tbm rfl iEB18.1)), iEB18.2⟩ ⟨(p491.1.same tA1 rfl (p481.1.same tA1 rfl iTA18.1)), iTA18.2⟩ ⟨(p491.1.same tA2 rfl (p481.1.same tA2 rfl iTB18.1)), iTB18.2⟩ (by have o0 := iDR18; have o1 := iDA18.2; have o2 := iDB18.2; unfold q_r at o1 o2; omega) (by have o0 := iTR18; have o1 := iTA18.2; have o2 := iTB18.2; unfold q_r at o1 o2; omega) (by have o0 := iKR18; have o1 := iER18; have o2 := iEA18.2; have o3 := iEB18.2; have o4 := iKA18.2; have o5 := iKB18.2; unfold q_r at o2 o3 o4 o5; omega) (zz_tc.keep (zz_tc.keep iTC18 p481.1.2 Tta Ttb rfl rfl) p491.1.2 Tta Ttb rfl rfl) ra_50 lw_51 nw491.2 (Or.imp id (fun z => zz_rs.C z p491.1 rfl Te0 Te1 Te2 (fun j _ => p491.1.2.arr Tbm (by decide) rfl)) (Or.imp id (fun z => zz_rs.C z p481.1 rfl Te0 Te1 Te2 (fun j _ => p481.1.2.arr Tbm (by decide) rfl)) iRE18)) ⟨(q_wf.keep w481.1 p491.1.2 tA2 rfl (q_wf.keep hS18.1 p481.1.2 tA2 rfl iV18.1)), (q_kp.keep w481.1 p491.1.2 tA2 rfl (q_kp.keep hS18.1 p481.1.2 tA2 rfl iV18.2))⟩
      by_cases z33_8 : v32.toInt = 8
      · skip
        refine q_tsIn (pc := 33) 8 498 hG dL_law_33 z33_8 (by decide) rfl rfl ?_
        refine q_aload_n (pc := 498) hG dL_law_498 1 rfl ?_
        refine q_aload_n (pc := 499) hG dL_law_499 0 rfl ?_
        refine q_iload_n (pc := 500) hG dL_law_500 3 rfl ?_
        refine q_iconst (pc := 501) hG dL_law_501 ki_1 ?_
        refine q_iadd (pc := 502) hG dL_law_502 (fun v502 e502 => ?_)
        have r_52 := (q_addN (lo := 1) (hi := 3067) e502 r_3 rl_1 (by decide)).2
        refine q_sld (pc := 503) hG hXs hbl hbA (by have o0 := e20; have o1 := (q_subN (lo := (-6)) (hi := 3066) e23 g20 rl_6 (by decide)).1; have o2 := c24; have o3 := (q_addN (lo := 1) (hi := 3067) e502 r_3 rl_1 (by decide)).1; have o4 := r_3; have o5 := g20; have o6 := r_4; have o7 := r_52; have l8 := tl_1; have l9 := tl_6; unfold q_r at o4 o5 o6 o7; omega) dL_law_503 (fun v503 e503 => ?_)
        refine q_cVi (pc := 504) [.int v503] [] hG (c_X11_dew τ σ18 a1 v503 hS18.1 tA1) my_X11_dew mv_X11_dew w384 dL_law_504 tA1 (by decide) rfl rfl (Nat.le_of_ble_eq_true rfl) (by decide) (fun v504 s504 p504 => ?_)
        have w504 := hS18.trans p504.1 rfl
        refine q_pop (pc := 507) hG dL_law_507 rfl ?_
        refine q_aload_n (pc := 508) hG dL_law_508 2 rfl ?_
        refine q_aload_n (pc := 509) hG dL_law_509 0 rfl ?_
        refine q_iload_n (pc := 510) hG dL_law_510 3 rfl ?_
        refine q_iconst (pc := 511) hG dL_law_511 ki_1 ?_
        refine q_iadd (pc := 512) hG dL_law_512 (fun v512 e512 => ?_)
        rw [e512.trans e502.symm]
        refine q_sld (pc := 513) hG hXs hbl hbA (by have o0 := e20; have o1 := (q_subN (lo := (-6)) (hi := 3066) e23 g20 rl_6 (by decide)).1; have o2 := c24; have o3 := (q_addN (lo := 1) (hi := 3067) e502 r_3 rl_1 (by decide)).1; have o4 := r_3; have o5 := g20; have o6 := r_4; have o7 := r_52; have l8 := tl_1; have l9 := tl_6; unfold q_r at o4 o5 o6 o7; omega) dL_law_513 (fun v513 e513 => ?_)
        refine q_cVi (pc := 514) [.int v513] [] hG (c_X12_dew τ s504 a2 v513 w504.1 tA2) my_X12_dew mv_X12_dew w854 dL_law_514 tA2 (by decide) rfl rfl (Nat.le_of_ble_eq_true rfl) (by decide) (fun v514 s514 p514 => ?_)
        have w514 := w504.trans p514.1 rfl
        have nw514 : v504.toInt = v514.toInt ∧ zw_L τ a1 a2 (fx_N s514) := zw_dew (zw_H.mk hS18.1 tA1 tA2 p504.1 rfl p514.1 rfl iNW18) p504.2.2.1 p514.2.2.1 (by have o0 := (congrArg Int32.toInt (e513.trans e503.symm)); omega)
        refine q_pop (pc := 517) hG dL_law_517 rfl ?_
        refine q_goto (pc := 518) 1447 hG dL_law_518 rfl ?_
        refine q_lv [0, 1, 2, 3] rfl ?_
        have ra_53 : zz_rs (fx_N s514) c0 c1 c2 bn := (zz_rs.C (zz_rs.C iRA18 p504.1 rfl Tc0 Tc1 Tc2 (fun j _ => p504.1.2.arr Tbn (by decide) rfl)) p514.1 rfl Tc0 Tc1 Tc2 (fun j hj => (p514.2.2.2.1 bn (w504.same tA2 rfl hbn)) j (Or.inl hj)))
        have lw_54 : zi_L a1 a2 (fx_N s514) := (zi_L.C w504.1 tA1 tA2 p514.1 rfl (zi_L.C hS18.1 tA1 tA2 p504.1 rfl iLW18))
        exact J1447 s514 KA18 KB18 DA18 DB18 EA18 EB18 TA18 TB18 w514 ⟨(p514.1.same tA1 rfl (p504.1.same tA1 rfl iKA18.1)), iKA18.2⟩ ⟨(p514.1.same tA2 rfl (p504.1.same tA2 rfl iKB18.1)), iKB18.2⟩ (by have o0 := iKR18; have o1 := iER18; have o2 := iEA18.2; have o3 := iEB18.2; have o4 := iKA18.2; have o5 := iKB18.2; unfold q_r at o2 o3 o4 o5; omega) ⟨(p514.1.same Tbr rfl (p504.1.same Tbr rfl iDA18.1)), iDA18.2⟩ ⟨((p514.2.2.2.1 bn (w504.same tA2 rfl hbn) _ (Or.inr (by decide))).trans (p504.1.same Tbn rfl iDB18.1)), iDB18.2⟩ ⟨(p514.1.same Tbk rfl (p504.1.same Tbk rfl iEA18.1)), iEA18.2⟩ ⟨(p514.1.same Tbm rfl (p504.1.same Tbm rfl iEB18.1)), iEB18.2⟩ ⟨(p514.1.same tA1 rfl (p504.1.same tA1 rfl iTA18.1)), iTA18.2⟩ ⟨(p514.1.same tA2 rfl (p504.1.same tA2 rfl iTB18.1)), iTB18.2⟩ (by have o0 := iDR18; have o1 := iDA18.2; have o2 := iDB18.2; unfold q_r at o1 o2; omega) (by have o0 := iTR18; have o1 := iTA18.2; have o2 := iTB18.2; unfold q_r at o1 o2; omega) (by have o0 := iKR18; have o1 := iER18; have o2 := iEA18.2; have o3 := iEB18.2; have o4 := iKA18.2; have o5 := iKB18.2; unfold q_r at o2 o3 o4 o5; omega) (zz_tc.keep (zz_tc.keep iTC18 p504.1.2 Tta Ttb rfl rfl) p514.1.2 Tta Ttb rfl rfl) ra_53 lw_54 nw514.2 (Or.imp id (fun z => zz_rs.C z p514.1 rfl Te0 Te1 Te2 (fun j _ => p514.1.2.arr Tbm (by decide) rfl)) (Or.imp id (fun z => zz_rs.C z p504.1 rfl Te0 Te1 Te2 (fun j _ => p504.1.2.arr Tbm (by decide) rfl)) iRE18)) ⟨(q_wf.keep w504.1 p514.1.2 tA2 rfl (q_wf.keep hS18.1 p504.1.2 tA2 rfl iV18.1)), (q_kp.keep w504.1 p514.1.2 tA2 rfl (q_kp.keep hS18.1 p504.1.2 tA2 rfl iV18.2))⟩
      by_cases z33_9 : v32.toInt = 9
      · skip
        refine q_tsIn (pc := 33) 9 521 hG dL_law_33 z33_9 (by decide) rfl rfl ?_
        refine q_aload_n (pc := 521) hG dL_law_521 1 rfl ?_
        refine q_aload_n (pc := 522) hG dL_law_522 0 rfl ?_
        refine q_iload_n (pc := 523) hG dL_law_523 3 rfl ?_
        refine q_iconst (pc := 524) hG dL_law_524 ki_1 ?_
        refine q_iadd (pc := 525) hG dL_law_525 (fun v525 e525 => ?_)
        have r_55 := (q_addN (lo := 1) (hi := 3067) e525 r_3 rl_1 (by decide)).2
        refine q_sld (pc := 526) hG hXs hbl hbA (by have o0 := e20; have o1 := (q_subN (lo := (-6)) (hi := 3066) e23 g20 rl_6 (by decide)).1; have o2 := c24; have o3 := (q_addN (lo := 1) (hi := 3067) e525 r_3 rl_1 (by decide)).1; have o4 := r_3; have o5 := g20; have o6 := r_4; have o7 := r_55; have l8 := tl_1; have l9 := tl_6; unfold q_r at o4 o5 o6 o7; omega) dL_law_526 (fun v526 e526 => ?_)
        refine q_aload_n (pc := 527) hG dL_law_527 0 rfl ?_
        refine q_iload_n (pc := 528) hG dL_law_528 3 rfl ?_
        refine q_iconst (pc := 529) hG dL_law_529 ki_2 ?_
        refine q_iadd (pc := 530) hG dL_law_530 (fun v530 e530 => ?_)
        have r_56 := (q_addN (lo := 2) (hi := 3068) e530 r_3 rl_2 (by decide)).2
        refine q_sld (pc := 531) hG hXs hbl hbA (by have o0 := e20; have o1 := (q_subN (lo := (-6)) (hi := 3066) e23 g20 rl_6 (by decide)).1; have o2 := c24; have o3 := (q_addN (lo := 1) (hi := 3067) e525 r_3 rl_1 (by decide)).1; have o4 := (q_addN (lo := 2) (hi := 3068) e530 r_3 rl_2 (by decide)).1; have o5 := r_3; have o6 := g20; have o7 := r_4; have o8 := r_55; have o9 := r_56; have l10 := tl_1; have l11 := tl_2; have l12 := tl_6; unfold q_r at o5 o6 o7 o8 o9; omega) dL_law_531 (fun v531 e531 => ?_)
        refine q_cVi (pc := 532) [.int v526, .int v531] [] hG (c_X11_burns τ σ18 a1 v526 v531 hS18.1 tA1) my_X11_burns mv_X11_burns w388 dL_law_532 tA1 (by decide) rfl rfl (Nat.le_of_ble_eq_true rfl) (by decide) (fun v532 s532 p532 => ?_)
        have w532 := hS18.trans p532.1 rfl
        refine q_pop (pc := 535) hG dL_law_535 rfl ?_
        refine q_aload_n (pc := 536) hG dL_law_536 2 rfl ?_
        refine q_aload_n (pc := 537) hG dL_law_537 0 rfl ?_
        refine q_iload_n (pc := 538) hG dL_law_538 3 rfl ?_
        refine q_iconst (pc := 539) hG dL_law_539 ki_1 ?_
        refine q_iadd (pc := 540) hG dL_law_540 (fun v540 e540 => ?_)
        rw [e540.trans e525.symm]
        refine q_sld (pc := 541) hG hXs hbl hbA (by have o0 := e20; have o1 := (q_subN (lo := (-6)) (hi := 3066) e23 g20 rl_6 (by decide)).1; have o2 := c24; have o3 := (q_addN (lo := 1) (hi := 3067) e525 r_3 rl_1 (by decide)).1; have o4 := (q_addN (lo := 2) (hi := 3068) e530 r_3 rl_2 (by decide)).1; have o5 := r_3; have o6 := g20; have o7 := r_4; have o8 := r_55; have o9 := r_56; have l10 := tl_1; have l11 := tl_2; have l12 := tl_6; unfold q_r at o5 o6 o7 o8 o9; omega) dL_law_541 (fun v541 e541 => ?_)
        refine q_aload_n (pc := 542) hG dL_law_542 0 rfl ?_
        refine q_iload_n (pc := 543) hG dL_law_543 3 rfl ?_
        refine q_iconst (pc := 544) hG dL_law_544 ki_2 ?_
        refine q_iadd (pc := 545) hG dL_law_545 (fun v545 e545 => ?_)
        rw [e545.trans e530.symm]
        refine q_sld (pc := 546) hG hXs hbl hbA (by have o0 := e20; have o1 := (q_subN (lo := (-6)) (hi := 3066) e23 g20 rl_6 (by decide)).1; have o2 := c24; have o3 := (q_addN (lo := 1) (hi := 3067) e525 r_3 rl_1 (by decide)).1; have o4 := (q_addN (lo := 2) (hi := 3068) e530 r_3 rl_2 (by decide)).1; have o5 := r_3; have o6 := g20; have o7 := r_4; have o8 := r_55; have o9 := r_56; have l10 := tl_1; have l11 := tl_2; have l12 := tl_6; unfold q_r at o5 o6 o7 o8 o9; omega) dL_law_546 (fun v546 e546 => ?_)
        refine q_cVi (pc := 547) [.int v541, .int v546] [] hG (c_X12_burns τ s532 a2 v541 v546 w532.1 tA2) my_X12_burns mv_X12_burns w858 dL_law_547 tA2 (by decide) rfl rfl (Nat.le_of_ble_eq_true rfl) (by decide) (fun v547 s547 p547 => ?_)
        have w547 := w532.trans p547.1 rfl
        have nw547 : v532.toInt = v547.toInt ∧ zw_L τ a1 a2 (fx_N s547) := zw_burns (zw_H.mk hS18.1 tA1 tA2 p532.1 rfl p547.1 rfl iNW18) p532.2.2 p547.2.2.1 (by have o0 := (congrArg Int32.toInt (e541.trans e526.symm)); omega) (by have o0 := (congrArg Int32.toInt (e546.trans e531.symm)); omega)
        refine q_pop (pc := 550) hG dL_law_550 rfl ?_
        refine q_goto (pc := 551) 1447 hG dL_law_551 rfl ?_
        refine q_lv [0, 1, 2, 3] rfl ?_
        have ra_57 : zz_rs (fx_N s547) c0 c1 c2 bn := (zz_rs.C (zz_rs.C iRA18 p532.1 rfl Tc0 Tc1 Tc2 (fun j _ => p532.1.2.arr Tbn (by decide) rfl)) p547.1 rfl Tc0 Tc1 Tc2 (fun j hj => (p547.2.2.2 bn (w532.same tA2 rfl hbn)) j (Or.inl hj)))
        have lw_58 : zi_L a1 a2 (fx_N s547) := (zi_L.C w532.1 tA1 tA2 p547.1 rfl (zi_L.C hS18.1 tA1 tA2 p532.1 rfl iLW18))
        exact J1447 s547 KA18 KB18 DA18 DB18 EA18 EB18 TA18 TB18 w547 ⟨(p547.1.same tA1 rfl (p532.1.same tA1 rfl iKA18.1)), iKA18.2⟩ ⟨(p547.1.same tA2 rfl (p532.1.same tA2 rfl iKB18.1)), iKB18.2⟩ (by have o0 := iKR18; have o1 := iER18; have o2 := iEA18.2; have o3 := iEB18.2; have o4 := iKA18.2; have o5 := iKB18.2; unfold q_r at o2 o3 o4 o5; omega) ⟨(p547.1.same Tbr rfl (p532.1.same Tbr rfl iDA18.1)), iDA18.2⟩ ⟨((p547.2.2.2 bn (w532.same tA2 rfl hbn) _ (Or.inr (by decide))).trans (p532.1.same Tbn rfl iDB18.1)), iDB18.2⟩ ⟨(p547.1.same Tbk rfl (p532.1.same Tbk rfl iEA18.1)), iEA18.2⟩ ⟨(p547.1.same Tbm rfl (p532.1.same Tbm rfl iEB18.1)), iEB18.2⟩ ⟨(p547.1.same tA1 rfl (p532.1.same tA1 rfl iTA18.1)), iTA18.2⟩ ⟨(p547.1.same tA2 rfl (p532.1.same tA2 rfl iTB18.1)), iTB18.2⟩ (by have o0 := iDR18; have o1 := iDA18.2; have o2 := iDB18.2; unfold q_r at o1 o2; omega) (by have o0 := iTR18; have o1 := iTA18.2; have o2 := iTB18.2; unfold q_r at o1 o2; omega) (by have o0 := iKR18; have o1 := iER18; have o2 := iEA18.2; have o3 := iEB18.2; have o4 := iKA18.2; have o5 := iKB18.2; unfold q_r at o2 o3 o4 o5; omega) (zz_tc.keep (zz_tc.keep iTC18 p532.1.2 Tta Ttb rfl rfl) p547.1.2 Tta Ttb rfl rfl) ra_57 lw_58 nw547.2 (Or.imp id (fun z => zz_rs.C z p547.1 rfl Te0 Te1 Te2 (fun j _ => p547.1.2.arr Tbm (by decide) rfl)) (Or.imp id (fun z => zz_rs.C z p532.1 rfl Te0 Te1 Te2 (fun j _ => p532.1.2.arr Tbm (by decide) rfl)) iRE18)) ⟨(q_wf.keep w532.1 p547.1.2 tA2 rfl (q_wf.keep hS18.1 p532.1.2 tA2 rfl iV18.1)), (q_kp.keep w532.1 p547.1.2 tA2 rfl (q_kp.keep hS18.1 p532.1.2 tA2 rfl iV18.2))⟩
      by_cases z33_10 : v32.toInt = 10
      · skip
        refine q_tsIn (pc := 33) 10 554 hG dL_law_33 z33_10 (by decide) rfl rfl ?_
        refine q_aload_n (pc := 554) hG dL_law_554 1 rfl ?_
        refine q_aload_n (pc := 555) hG dL_law_555 0 rfl ?_
        refine q_iload_n (pc := 556) hG dL_law_556 3 rfl ?_
        refine q_iconst (pc := 557) hG dL_law_557 ki_1 ?_
        refine q_iadd (pc := 558) hG dL_law_558 (fun v558 e558 => ?_)
        have r_59 := (q_addN (lo := 1) (hi := 3067) e558 r_3 rl_1 (by decide)).2
        refine q_sld (pc := 559) hG hXs hbl hbA (by have o0 := e20; have o1 := (q_subN (lo := (-6)) (hi := 3066) e23 g20 rl_6 (by decide)).1; have o2 := c24; have o3 := (q_addN (lo := 1) (hi := 3067) e558 r_3 rl_1 (by decide)).1; have o4 := r_3; have o5 := g20; have o6 := r_4; have o7 := r_59; have l8 := tl_1; have l9 := tl_6; unfold q_r at o4 o5 o6 o7; omega) dL_law_559 (fun v559 e559 => ?_)
        refine q_cVi (pc := 560) [.int v559] [] hG (c_X11_minutes τ σ18 a1 v559 hS18.1 tA1) my_X11_minutes mv_X11_minutes w396 dL_law_560 tA1 (by decide) rfl rfl (Nat.le_of_ble_eq_true rfl) (by decide) (fun v560 s560 p560 => ?_)
        have w560 := hS18.trans p560.1 rfl
        refine q_pop (pc := 563) hG dL_law_563 rfl ?_
        refine q_aload_n (pc := 564) hG dL_law_564 2 rfl ?_
        refine q_aload_n (pc := 565) hG dL_law_565 0 rfl ?_
        refine q_iload_n (pc := 566) hG dL_law_566 3 rfl ?_
        refine q_iconst (pc := 567) hG dL_law_567 ki_1 ?_
        refine q_iadd (pc := 568) hG dL_law_568 (fun v568 e568 => ?_)
        rw [e568.trans e558.symm]
        refine q_sld (pc := 569) hG hXs hbl hbA (by have o0 := e20; have o1 := (q_subN (lo := (-6)) (hi := 3066) e23 g20 rl_6 (by decide)).1; have o2 := c24; have o3 := (q_addN (lo := 1) (hi := 3067) e558 r_3 rl_1 (by decide)).1; have o4 := r_3; have o5 := g20; have o6 := r_4; have o7 := r_59; have l8 := tl_1; have l9 := tl_6; unfold q_r at o4 o5 o6 o7; omega) dL_law_569 (fun v569 e569 => ?_)
        refine q_cVi (pc := 570) [.int v569] [] hG (c_X12_minutes τ s560 a2 v569 w560.1 tA2 (q_wf.keep hS18.1 p560.1.2 tA2 rfl iV18.1)) my_X12_minutes mv_X12_minutes w953 dL_law_570 tA2 (by decide) rfl rfl (Nat.le_of_ble_eq_true rfl) (by decide) (fun v570 s570 p570 => ?_)
        have w570 := w560.trans p570.1 rfl
        have nw570 : v560.toInt = v570.toInt ∧ zw_L τ a1 a2 (fx_N s570) := zw_minutes (zw_H.mk hS18.1 tA1 tA2 p560.1 rfl p570.1 rfl iNW18) p560.1 rfl rfl iLW18 (zw_Q.mk (hS18.same tA1 rfl hbr) ⟨(hS18.same Tbr rfl hc3.1), (hS18.same Tbr rfl hc3.2.1), (hS18.same Tbr rfl hc3.2.2)⟩ (hS18.same tA2 rfl hbn) iRA18) p560.2.2 p570.2.2.1 (by have o0 := (congrArg Int32.toInt (e569.trans e559.symm)); omega)
        refine q_pop (pc := 573) hG dL_law_573 rfl ?_
        refine q_goto (pc := 574) 1447 hG dL_law_574 rfl ?_
        refine q_lv [0, 1, 2, 3] rfl ?_
        have ra_60 : zz_rs (fx_N s570) c0 c1 c2 bn := (zz_rs.C (zz_rs.C iRA18 p560.1 rfl Tc0 Tc1 Tc2 (fun j _ => p560.1.2.arr Tbn (by decide) rfl)) p570.1 rfl Tc0 Tc1 Tc2 (fun j hj => (p570.2.2.2 bn (w560.same tA2 rfl hbn)) j (Or.inl hj)))
        have lw_61 : zi_L a1 a2 (fx_N s570) := (zi_L.C w560.1 tA1 tA2 p570.1 rfl (zi_L.C hS18.1 tA1 tA2 p560.1 rfl iLW18))
        exact J1447 s570 KA18 KB18 DA18 DB18 EA18 EB18 TA18 TB18 w570 ⟨(p570.1.same tA1 rfl (p560.1.same tA1 rfl iKA18.1)), iKA18.2⟩ ⟨(p570.1.same tA2 rfl (p560.1.same tA2 rfl iKB18.1)), iKB18.2⟩ (by have o0 := iKR18; have o1 := iER18; have o2 := iEA18.2; have o3 := iEB18.2; have o4 := iKA18.2; have o5 := iKB18.2; unfold q_r at o2 o3 o4 o5; omega) ⟨(p570.1.same Tbr rfl (p560.1.same Tbr rfl iDA18.1)), iDA18.2⟩ ⟨((p570.2.2.2 bn (w560.same tA2 rfl hbn) _ (Or.inr (by decide))).trans (p560.1.same Tbn rfl iDB18.1)), iDB18.2⟩ ⟨(p570.1.same Tbk rfl (p560.1.same Tbk rfl iEA18.1)), iEA18.2⟩ ⟨(p570.1.same Tbm rfl (p560.1.same Tbm rfl iEB18.1)), iEB18.2⟩ ⟨(p570.1.same tA1 rfl (p560.1.same tA1 rfl iTA18.1)), iTA18.2⟩ ⟨(p570.1.same tA2 rfl (p560.1.same tA2 rfl iTB18.1)), iTB18.2⟩ (by have o0 := iDR18; have o1 := iDA18.2; have o2 := iDB18.2; unfold q_r at o1 o2; omega) (by have o0 := iTR18; have o1 := iTA18.2; have o2 := iTB18.2; unfold q_r at o1 o2; omega) (by have o0 := iKR18; have o1 := iER18; have o2 := iEA18.2; have o3 := iEB18.2; have o4 := iKA18.2; have o5 := iKB18.2; unfold q_r at o2 o3 o4 o5; omega) (zz_tc.keep (zz_tc.keep iTC18 p560.1.2 Tta Ttb rfl rfl) p570.1.2 Tta Ttb rfl rfl) ra_60 lw_61 nw570.2 (Or.imp id (fun z => zz_rs.C z p570.1 rfl Te0 Te1 Te2 (fun j _ => p570.1.2.arr Tbm (by decide) rfl)) (Or.imp id (fun z => zz_rs.C z p560.1 rfl Te0 Te1 Te2 (fun j _ => p560.1.2.arr Tbm (by decide) rfl)) iRE18)) ⟨(q_wf.keep w560.1 p570.1.2 tA2 rfl (q_wf.keep hS18.1 p560.1.2 tA2 rfl iV18.1)), (q_kp.keep w560.1 p570.1.2 tA2 rfl (q_kp.keep hS18.1 p560.1.2 tA2 rfl iV18.2))⟩
      by_cases z33_11 : v32.toInt = 11
      · skip
        refine q_tsIn (pc := 33) 11 577 hG dL_law_33 z33_11 (by decide) rfl rfl ?_
        refine q_aload_n (pc := 577) hG dL_law_577 1 rfl ?_
        refine q_aload_n (pc := 578) hG dL_law_578 0 rfl ?_
        refine q_iload_n (pc := 579) hG dL_law_579 3 rfl ?_
        refine q_iconst (pc := 580) hG dL_law_580 ki_1 ?_
        refine q_iadd (pc := 581) hG dL_law_581 (fun v581 e581 => ?_)
        have r_62 := (q_addN (lo := 1) (hi := 3067) e581 r_3 rl_1 (by decide)).2
        refine q_sld (pc := 582) hG hXs hbl hbA (by have o0 := e20; have o1 := (q_subN (lo := (-6)) (hi := 3066) e23 g20 rl_6 (by decide)).1; have o2 := c24; have o3 := (q_addN (lo := 1) (hi := 3067) e581 r_3 rl_1 (by decide)).1; have o4 := r_3; have o5 := g20; have o6 := r_4; have o7 := r_62; have l8 := tl_1; have l9 := tl_6; unfold q_r at o4 o5 o6 o7; omega) dL_law_582 (fun v582 e582 => ?_)
        refine q_aload_n (pc := 583) hG dL_law_583 0 rfl ?_
        refine q_iload_n (pc := 584) hG dL_law_584 3 rfl ?_
        refine q_iconst (pc := 585) hG dL_law_585 ki_2 ?_
        refine q_iadd (pc := 586) hG dL_law_586 (fun v586 e586 => ?_)
        have r_63 := (q_addN (lo := 2) (hi := 3068) e586 r_3 rl_2 (by decide)).2
        refine q_sld (pc := 587) hG hXs hbl hbA (by have o0 := e20; have o1 := (q_subN (lo := (-6)) (hi := 3066) e23 g20 rl_6 (by decide)).1; have o2 := c24; have o3 := (q_addN (lo := 1) (hi := 3067) e581 r_3 rl_1 (by decide)).1; have o4 := (q_addN (lo := 2) (hi := 3068) e586 r_3 rl_2 (by decide)).1; have o5 := r_3; have o6 := g20; have o7 := r_4; have o8 := r_62; have o9 := r_63; have l10 := tl_1; have l11 := tl_2; have l12 := tl_6; unfold q_r at o5 o6 o7 o8 o9; omega) dL_law_587 (fun v587 e587 => ?_)
        refine q_cVi (pc := 588) [.int v582, .int v587] [] hG (c_X11_tried τ σ18 a1 v582 v587 hS18.1 tA1) my_X11_tried mv_X11_tried w484 dL_law_588 tA1 (by decide) rfl rfl (Nat.le_of_ble_eq_true rfl) (by decide) (fun v588 s588 p588 => ?_)
        have w588 := hS18.trans p588.1 rfl
        have ra_64 : zz_rs (fx_N s588) c0 c1 c2 bn := zz_rs.O iRA18 (p588.2.2.2.2 bt t0 t1 t2 (hS18.same tA1 rfl hbt) (hS18.same Tbt rfl ht3.1) (hS18.same Tbt rfl ht3.2.1) (hS18.same Tbt rfl ht3.2.2)) Tc0 Tc1 Tc2 ap2.n2 (fun j _ => p588.1.2.arr Tbn (by decide) rfl)
        have re_65 : KA18.toInt = 0 ∨ zz_rs (fx_N s588) e0 e1 e2 bm := Or.imp id (fun z => zz_rs.O z (p588.2.2.2.2 bt t0 t1 t2 (hS18.same tA1 rfl hbt) (hS18.same Tbt rfl ht3.1) (hS18.same Tbt rfl ht3.2.1) (hS18.same Tbt rfl ht3.2.2)) Te0 Te1 Te2 ap3.n2 (fun j _ => p588.1.2.arr Tbm (by decide) rfl)) iRE18
        refine q_pop (pc := 591) hG dL_law_591 rfl ?_
        refine q_aload_n (pc := 592) hG dL_law_592 2 rfl ?_
        refine q_aload_n (pc := 593) hG dL_law_593 0 rfl ?_
        refine q_iload_n (pc := 594) hG dL_law_594 3 rfl ?_
        refine q_iconst (pc := 595) hG dL_law_595 ki_1 ?_
        refine q_iadd (pc := 596) hG dL_law_596 (fun v596 e596 => ?_)
        rw [e596.trans e581.symm]
        refine q_sld (pc := 597) hG hXs hbl hbA (by have o0 := e20; have o1 := (q_subN (lo := (-6)) (hi := 3066) e23 g20 rl_6 (by decide)).1; have o2 := c24; have o3 := (q_addN (lo := 1) (hi := 3067) e581 r_3 rl_1 (by decide)).1; have o4 := (q_addN (lo := 2) (hi := 3068) e586 r_3 rl_2 (by decide)).1; have o5 := r_3; have o6 := g20; have o7 := r_4; have o8 := r_62; have o9 := r_63; have l10 := tl_1; have l11 := tl_2; have l12 := tl_6; unfold q_r at o5 o6 o7 o8 o9; omega) dL_law_597 (fun v597 e597 => ?_)
        refine q_aload_n (pc := 598) hG dL_law_598 0 rfl ?_
        refine q_iload_n (pc := 599) hG dL_law_599 3 rfl ?_
        refine q_iconst (pc := 600) hG dL_law_600 ki_2 ?_
        refine q_iadd (pc := 601) hG dL_law_601 (fun v601 e601 => ?_)
        rw [e601.trans e586.symm]
        refine q_sld (pc := 602) hG hXs hbl hbA (by have o0 := e20; have o1 := (q_subN (lo := (-6)) (hi := 3066) e23 g20 rl_6 (by decide)).1; have o2 := c24; have o3 := (q_addN (lo := 1) (hi := 3067) e581 r_3 rl_1 (by decide)).1; have o4 := (q_addN (lo := 2) (hi := 3068) e586 r_3 rl_2 (by decide)).1; have o5 := r_3; have o6 := g20; have o7 := r_4; have o8 := r_62; have o9 := r_63; have l10 := tl_1; have l11 := tl_2; have l12 := tl_6; unfold q_r at o5 o6 o7 o8 o9; omega) dL_law_602 (fun v602 e602 => ?_)
        refine q_cVi (pc := 603) [.int v597, .int v602] [] hG (c_X12_tried τ s588 a2 v597 v602 w588.1 tA2 (q_wf.keep hS18.1 p588.1.2 tA2 rfl iV18.1)) my_X12_tried mv_X12_tried w1014 dL_law_603 tA2 (by decide) rfl rfl (Nat.le_of_ble_eq_true rfl) (by decide) (fun v603 s603 p603 => ?_)
        have w603 := w588.trans p603.1 rfl
        have nw603 : v588.toInt = v603.toInt ∧ zw_L τ a1 a2 (fx_N s603) := zw_tried (zw_H.mk hS18.1 tA1 tA2 p588.1 rfl p603.1 rfl iNW18) p588.1 rfl rfl p603.1 rfl iLW18 (zw_Q.mk (hS18.same tA1 rfl hbr) ⟨(hS18.same Tbr rfl hc3.1), (hS18.same Tbr rfl hc3.2.1), (hS18.same Tbr rfl hc3.2.2)⟩ (hS18.same tA2 rfl hbn) iRA18) p588.2.2.1 p603.2.2.1 (by have o0 := (congrArg Int32.toInt (e597.trans e582.symm)); omega) (by have o0 := (congrArg Int32.toInt (e602.trans e587.symm)); omega)
        refine q_pop (pc := 606) hG dL_law_606 rfl ?_
        refine q_goto (pc := 607) 1447 hG dL_law_607 rfl ?_
        refine q_lv [0, 1, 2, 3] rfl ?_
        have ra_66 : zz_rs (fx_N s603) c0 c1 c2 bn := (zz_rs.C ra_64 p603.1 rfl Tc0 Tc1 Tc2 (fun j hj => (p603.2.2.2 bn (w588.same tA2 rfl hbn)) j (Or.inl hj)))
        have lw_67 : zi_L a1 a2 (fx_N s603) := (zi_L.C w588.1 tA1 tA2 p603.1 rfl (zi_L.C hS18.1 tA1 tA2 p588.1 rfl iLW18))
        exact J1447 s603 KA18 KB18 DA18 DB18 EA18 EB18 TA18 TB18 w603 ⟨(p603.1.same tA1 rfl (p588.1.same tA1 rfl iKA18.1)), iKA18.2⟩ ⟨(p603.1.same tA2 rfl (p588.1.same tA2 rfl iKB18.1)), iKB18.2⟩ (by have o0 := iKR18; have o1 := iER18; have o2 := iEA18.2; have o3 := iEB18.2; have o4 := iKA18.2; have o5 := iKB18.2; unfold q_r at o2 o3 o4 o5; omega) ⟨(p603.1.same Tbr rfl ((p588.2.2.2.1 bt (hS18.same tA1 rfl hbt) br (Ne.symm ne2) Tbr).trans iDA18.1)), iDA18.2⟩ ⟨((p603.2.2.2 bn (w588.same tA2 rfl hbn) _ (Or.inr (by decide))).trans (p588.1.same Tbn rfl iDB18.1)), iDB18.2⟩ ⟨(p603.1.same Tbk rfl ((p588.2.2.2.1 bt (hS18.same tA1 rfl hbt) bk (Ne.symm ne3) Tbk).trans iEA18.1)), iEA18.2⟩ ⟨(p603.1.same Tbm rfl (p588.1.same Tbm rfl iEB18.1)), iEB18.2⟩ ⟨(p603.1.same tA1 rfl (p588.1.same tA1 rfl iTA18.1)), iTA18.2⟩ ⟨(p603.1.same tA2 rfl (p588.1.same tA2 rfl iTB18.1)), iTB18.2⟩ (by have o0 := iDR18; have o1 := iDA18.2; have o2 := iDB18.2; unfold q_r at o1 o2; omega) (by have o0 := iTR18; have o1 := iTA18.2; have o2 := iTB18.2; unfold q_r at o1 o2; omega) (by have o0 := iKR18; have o1 := iER18; have o2 := iEA18.2; have o3 := iEB18.2; have o4 := iKA18.2; have o5 := iKB18.2; unfold q_r at o2 o3 o4 o5; omega) (zz_tc.keep (zz_tc.keep iTC18 p588.1.2 Tta Ttb rfl rfl) p603.1.2 Tta Ttb rfl rfl) ra_66 lw_67 nw603.2 (Or.imp id (fun z => zz_rs.C z p603.1 rfl Te0 Te1 Te2 (fun j _ => p603.1.2.arr Tbm (by decide) rfl)) re_65) ⟨(q_wf.keep w588.1 p603.1.2 tA2 rfl (q_wf.keep hS18.1 p588.1.2 tA2 rfl iV18.1)), (q_kp.keep w588.1 p603.1.2 tA2 rfl (q_kp.keep hS18.1 p588.1.2 tA2 rfl iV18.2))⟩
      by_cases z33_12 : v32.toInt = 12
      · skip
        refine q_tsIn (pc := 33) 12 610 hG dL_law_33 z33_12 (by decide) rfl rfl ?_
        refine q_aload_n (pc := 610) hG dL_law_610 1 rfl ?_
        refine q_aload_n (pc := 611) hG dL_law_611 0 rfl ?_
        refine q_iload_n (pc := 612) hG dL_law_612 3 rfl ?_
        refine q_iconst (pc := 613) hG dL_law_613 ki_1 ?_
        refine q_iadd (pc := 614) hG dL_law_614 (fun v614 e614 => ?_)
        have r_68 := (q_addN (lo := 1) (hi := 3067) e614 r_3 rl_1 (by decide)).2
        refine q_sld (pc := 615) hG hXs hbl hbA (by have o0 := e20; have o1 := (q_subN (lo := (-6)) (hi := 3066) e23 g20 rl_6 (by decide)).1; have o2 := c24; have o3 := (q_addN (lo := 1) (hi := 3067) e614 r_3 rl_1 (by decide)).1; have o4 := r_3; have o5 := g20; have o6 := r_4; have o7 := r_68; have l8 := tl_1; have l9 := tl_6; unfold q_r at o4 o5 o6 o7; omega) dL_law_615 (fun v615 e615 => ?_)
        refine q_aload_n (pc := 616) hG dL_law_616 0 rfl ?_
        refine q_iload_n (pc := 617) hG dL_law_617 3 rfl ?_
        refine q_iconst (pc := 618) hG dL_law_618 ki_2 ?_
        refine q_iadd (pc := 619) hG dL_law_619 (fun v619 e619 => ?_)
        have r_69 := (q_addN (lo := 2) (hi := 3068) e619 r_3 rl_2 (by decide)).2
        refine q_sld (pc := 620) hG hXs hbl hbA (by have o0 := e20; have o1 := (q_subN (lo := (-6)) (hi := 3066) e23 g20 rl_6 (by decide)).1; have o2 := c24; have o3 := (q_addN (lo := 1) (hi := 3067) e614 r_3 rl_1 (by decide)).1; have o4 := (q_addN (lo := 2) (hi := 3068) e619 r_3 rl_2 (by decide)).1; have o5 := r_3; have o6 := g20; have o7 := r_4; have o8 := r_68; have o9 := r_69; have l10 := tl_1; have l11 := tl_2; have l12 := tl_6; unfold q_r at o5 o6 o7 o8 o9; omega) dL_law_620 (fun v620 e620 => ?_)
        refine q_pV (pc := 621) [.int v615, .int v620] [] hG (c_X11_dot τ σ18 a1 v615 v620 hS18.1 tA1) my_X11_dot mv_X11_dot w513 dL_law_621 tA1 (by decide) rfl rfl (Nat.le_of_ble_eq_true rfl) (by decide) (fun v621 p621 => ?_)
        refine q_pop (pc := 624) hG dL_law_624 rfl ?_
        refine q_aload_n (pc := 625) hG dL_law_625 2 rfl ?_
        refine q_aload_n (pc := 626) hG dL_law_626 0 rfl ?_
        refine q_iload_n (pc := 627) hG dL_law_627 3 rfl ?_
        refine q_iconst (pc := 628) hG dL_law_628 ki_1 ?_
        refine q_iadd (pc := 629) hG dL_law_629 (fun v629 e629 => ?_)
        rw [e629.trans e614.symm]
        refine q_sld (pc := 630) hG hXs hbl hbA (by have o0 := e20; have o1 := (q_subN (lo := (-6)) (hi := 3066) e23 g20 rl_6 (by decide)).1; have o2 := c24; have o3 := (q_addN (lo := 1) (hi := 3067) e614 r_3 rl_1 (by decide)).1; have o4 := (q_addN (lo := 2) (hi := 3068) e619 r_3 rl_2 (by decide)).1; have o5 := r_3; have o6 := g20; have o7 := r_4; have o8 := r_68; have o9 := r_69; have l10 := tl_1; have l11 := tl_2; have l12 := tl_6; unfold q_r at o5 o6 o7 o8 o9; omega) dL_law_630 (fun v630 e630 => ?_)
        refine q_aload_n (pc := 631) hG dL_law_631 0 rfl ?_
        refine q_iload_n (pc := 632) hG dL_law_632 3 rfl ?_
        refine q_iconst (pc := 633) hG dL_law_633 ki_2 ?_
        refine q_iadd (pc := 634) hG dL_law_634 (fun v634 e634 => ?_)
        rw [e634.trans e619.symm]
        refine q_sld (pc := 635) hG hXs hbl hbA (by have o0 := e20; have o1 := (q_subN (lo := (-6)) (hi := 3066) e23 g20 rl_6 (by decide)).1; have o2 := c24; have o3 := (q_addN (lo := 1) (hi := 3067) e614 r_3 rl_1 (by decide)).1; have o4 := (q_addN (lo := 2) (hi := 3068) e619 r_3 rl_2 (by decide)).1; have o5 := r_3; have o6 := g20; have o7 := r_4; have o8 := r_68; have o9 := r_69; have l10 := tl_1; have l11 := tl_2; have l12 := tl_6; unfold q_r at o5 o6 o7 o8 o9; omega) dL_law_635 (fun v635 e635 => ?_)
        refine q_pV (pc := 636) [.int v630, .int v635] [] hG (c_X12_dot τ σ18 a2 v630 v635 hS18.1 tA2) my_X12_dot mv_X12_dot w1033 dL_law_636 tA2 (by decide) rfl rfl (Nat.le_of_ble_eq_true rfl) (by decide) (fun v636 p636 => ?_)
        refine q_pop (pc := 639) hG dL_law_639 rfl ?_
        refine q_goto (pc := 640) 1447 hG dL_law_640 rfl ?_
        refine q_lv [0, 1, 2, 3] rfl ?_
        exact J1447 σ18 KA18 KB18 DA18 DB18 EA18 EB18 TA18 TB18 hS18 ⟨iKA18.1, iKA18.2⟩ ⟨iKB18.1, iKB18.2⟩ (by have o0 := iKR18; have o1 := iER18; have o2 := iEA18.2; have o3 := iEB18.2; have o4 := iKA18.2; have o5 := iKB18.2; unfold q_r at o2 o3 o4 o5; omega) ⟨iDA18.1, iDA18.2⟩ ⟨iDB18.1, iDB18.2⟩ ⟨iEA18.1, iEA18.2⟩ ⟨iEB18.1, iEB18.2⟩ ⟨iTA18.1, iTA18.2⟩ ⟨iTB18.1, iTB18.2⟩ (by have o0 := iDR18; have o1 := iDA18.2; have o2 := iDB18.2; unfold q_r at o1 o2; omega) (by have o0 := iTR18; have o1 := iTA18.2; have o2 := iTB18.2; unfold q_r at o1 o2; omega) (by have o0 := iKR18; have o1 := iER18; have o2 := iEA18.2; have o3 := iEB18.2; have o4 := iKA18.2; have o5 := iKB18.2; unfold q_r at o2 o3 o4 o5; omega) iTC18 iRA18 iLW18 iNW18 iRE18 ⟨iV18.1, iV18.2⟩
      by_cases z33_13 : v32.toInt = 13
      · skip
        refine q_tsIn (pc := 33) 13 643 hG dL_law_33 z33_13 (by decide) rfl rfl ?_
        refine q_aload_n (pc := 643) hG dL_law_643 1 rfl ?_
        refine q_aload_n (pc := 644) hG dL_law_644 0 rfl ?_
        refine q_iload_n (pc := 645) hG dL_law_645 3 rfl ?_
        refine q_iconst (pc := 646) hG dL_law_646 ki_1 ?_
        refine q_iadd (pc := 647) hG dL_law_647 (fun v647 e647 => ?_)
        have r_70 := (q_addN (lo := 1) (hi := 3067) e647 r_3 rl_1 (by decide)).2
        refine q_sld (pc := 648) hG hXs hbl hbA (by have o0 := e20; have o1 := (q_subN (lo := (-6)) (hi := 3066) e23 g20 rl_6 (by decide)).1; have o2 := c24; have o3 := (q_addN (lo := 1) (hi := 3067) e647 r_3 rl_1 (by decide)).1; have o4 := r_3; have o5 := g20; have o6 := r_4; have o7 := r_70; have l8 := tl_1; have l9 := tl_6; unfold q_r at o4 o5 o6 o7; omega) dL_law_648 (fun v648 e648 => ?_)
        refine q_aload_n (pc := 649) hG dL_law_649 0 rfl ?_
        refine q_iload_n (pc := 650) hG dL_law_650 3 rfl ?_
        refine q_iconst (pc := 651) hG dL_law_651 ki_2 ?_
        refine q_iadd (pc := 652) hG dL_law_652 (fun v652 e652 => ?_)
        have r_71 := (q_addN (lo := 2) (hi := 3068) e652 r_3 rl_2 (by decide)).2
        refine q_sld (pc := 653) hG hXs hbl hbA (by have o0 := e20; have o1 := (q_subN (lo := (-6)) (hi := 3066) e23 g20 rl_6 (by decide)).1; have o2 := c24; have o3 := (q_addN (lo := 1) (hi := 3067) e647 r_3 rl_1 (by decide)).1; have o4 := (q_addN (lo := 2) (hi := 3068) e652 r_3 rl_2 (by decide)).1; have o5 := r_3; have o6 := g20; have o7 := r_4; have o8 := r_70; have o9 := r_71; have l10 := tl_1; have l11 := tl_2; have l12 := tl_6; unfold q_r at o5 o6 o7 o8 o9; omega) dL_law_653 (fun v653 e653 => ?_)
        refine q_cVi (pc := 654) [.int v648, .int v653] [] hG (c_X11_smooth τ σ18 a1 v648 v653 hS18.1 tA1) my_X11_smooth mv_X11_smooth w523 dL_law_654 tA1 (by decide) rfl rfl (Nat.le_of_ble_eq_true rfl) (by decide) (fun v654 s654 p654 => ?_)
        have w654 := hS18.trans p654.1 rfl
        refine q_pop (pc := 657) hG dL_law_657 rfl ?_
        refine q_aload_n (pc := 658) hG dL_law_658 2 rfl ?_
        refine q_aload_n (pc := 659) hG dL_law_659 0 rfl ?_
        refine q_iload_n (pc := 660) hG dL_law_660 3 rfl ?_
        refine q_iconst (pc := 661) hG dL_law_661 ki_1 ?_
        refine q_iadd (pc := 662) hG dL_law_662 (fun v662 e662 => ?_)
        rw [e662.trans e647.symm]
        refine q_sld (pc := 663) hG hXs hbl hbA (by have o0 := e20; have o1 := (q_subN (lo := (-6)) (hi := 3066) e23 g20 rl_6 (by decide)).1; have o2 := c24; have o3 := (q_addN (lo := 1) (hi := 3067) e647 r_3 rl_1 (by decide)).1; have o4 := (q_addN (lo := 2) (hi := 3068) e652 r_3 rl_2 (by decide)).1; have o5 := r_3; have o6 := g20; have o7 := r_4; have o8 := r_70; have o9 := r_71; have l10 := tl_1; have l11 := tl_2; have l12 := tl_6; unfold q_r at o5 o6 o7 o8 o9; omega) dL_law_663 (fun v663 e663 => ?_)
        refine q_aload_n (pc := 664) hG dL_law_664 0 rfl ?_
        refine q_iload_n (pc := 665) hG dL_law_665 3 rfl ?_
        refine q_iconst (pc := 666) hG dL_law_666 ki_2 ?_
        refine q_iadd (pc := 667) hG dL_law_667 (fun v667 e667 => ?_)
        rw [e667.trans e652.symm]
        refine q_sld (pc := 668) hG hXs hbl hbA (by have o0 := e20; have o1 := (q_subN (lo := (-6)) (hi := 3066) e23 g20 rl_6 (by decide)).1; have o2 := c24; have o3 := (q_addN (lo := 1) (hi := 3067) e647 r_3 rl_1 (by decide)).1; have o4 := (q_addN (lo := 2) (hi := 3068) e652 r_3 rl_2 (by decide)).1; have o5 := r_3; have o6 := g20; have o7 := r_4; have o8 := r_70; have o9 := r_71; have l10 := tl_1; have l11 := tl_2; have l12 := tl_6; unfold q_r at o5 o6 o7 o8 o9; omega) dL_law_668 (fun v668 e668 => ?_)
        refine q_cVi (pc := 669) [.int v663, .int v668] [] hG (c_X12_smooth τ s654 a2 v663 v668 w654.1 tA2) my_X12_smooth mv_X12_smooth w1040 dL_law_669 tA2 (by decide) rfl rfl (Nat.le_of_ble_eq_true rfl) (by decide) (fun v669 s669 p669 => ?_)
        have w669 := w654.trans p669.1 rfl
        refine q_pop (pc := 672) hG dL_law_672 rfl ?_
        refine q_goto (pc := 673) 1447 hG dL_law_673 rfl ?_
        refine q_lv [0, 1, 2, 3] rfl ?_
        have ra_72 : zz_rs (fx_N s669) c0 c1 c2 bn := (zz_rs.C (zz_rs.C iRA18 p654.1 rfl Tc0 Tc1 Tc2 (fun j _ => p654.1.2.arr Tbn (by decide) rfl)) p669.1 rfl Tc0 Tc1 Tc2 (fun j _ => p669.1.2.arr Tbn (by decide) rfl))
        have lw_73 : zi_L a1 a2 (fx_N s669) := (zi_L.C w654.1 tA1 tA2 p669.1 rfl (zi_L.C hS18.1 tA1 tA2 p654.1 rfl iLW18))
        have nw_74 : zw_L τ a1 a2 (fx_N s669) := (zw_L.C tA1 tA2 p669.1 rfl (zw_L.C tA1 tA2 p654.1 rfl iNW18))
        exact J1447 s669 KA18 KB18 DA18 DB18 EA18 EB18 TA18 TB18 w669 ⟨(p669.1.same tA1 rfl (p654.1.same tA1 rfl iKA18.1)), iKA18.2⟩ ⟨(p669.1.same tA2 rfl (p654.1.same tA2 rfl iKB18.1)), iKB18.2⟩ (by have o0 := iKR18; have o1 := iER18; have o2 := iEA18.2; have o3 := iEB18.2; have o4 := iKA18.2; have o5 := iKB18.2; unfold q_r at o2 o3 o4 o5; omega) ⟨(p669.1.same Tbr rfl (p654.1.same Tbr rfl iDA18.1)), iDA18.2⟩ ⟨(p669.1.same Tbn rfl (p654.1.same Tbn rfl iDB18.1)), iDB18.2⟩ ⟨(p669.1.same Tbk rfl (p654.1.same Tbk rfl iEA18.1)), iEA18.2⟩ ⟨(p669.1.same Tbm rfl (p654.1.same Tbm rfl iEB18.1)), iEB18.2⟩ ⟨(p669.1.same tA1 rfl (p654.1.same tA1 rfl iTA18.1)), iTA18.2⟩ ⟨(p669.1.same tA2 rfl (p654.1.same tA2 rfl iTB18.1)), iTB18.2⟩ (by have o0 := iDR18; have o1 := iDA18.2; have o2 := iDB18.2; unfold q_r at o1 o2; omega) (by have o0 := iTR18; have o1 := iTA18.2; have o2 := iTB18.2; unfold q_r at o1 o2; omega) (by have o0 := iKR18; have o1 := iER18; have o2 := iEA18.2; have o3 := iEB18.2; have o4 := iKA18.2; have o5 := iKB18.2; unfold q_r at o2 o3 o4 o5; omega) (zz_tc.keep (zz_tc.keep iTC18 p654.1.2 Tta Ttb rfl rfl) p669.1.2 Tta Ttb rfl rfl) ra_72 lw_73 nw_74 (Or.imp id (fun z => zz_rs.C z p669.1 rfl Te0 Te1 Te2 (fun j _ => p669.1.2.arr Tbm (by decide) rfl)) (Or.imp id (fun z => zz_rs.C z p654.1 rfl Te0 Te1 Te2 (fun j _ => p654.1.2.arr Tbm (by decide) rfl)) iRE18)) ⟨(q_wf.keep w654.1 p669.1.2 tA2 rfl (q_wf.keep hS18.1 p654.1.2 tA2 rfl iV18.1)), (q_kp.keep w654.1 p669.1.2 tA2 rfl (q_kp.keep hS18.1 p654.1.2 tA2 rfl iV18.2))⟩
      by_cases z33_14 : v32.toInt = 14
      · skip
        refine q_tsIn (pc := 33) 14 676 hG dL_law_33 z33_14 (by decide) rfl rfl ?_
        refine q_aload_n (pc := 676) hG dL_law_676 1 rfl ?_
        refine q_aload_n (pc := 677) hG dL_law_677 0 rfl ?_
        refine q_iload_n (pc := 678) hG dL_law_678 3 rfl ?_
        refine q_iconst (pc := 679) hG dL_law_679 ki_1 ?_
        refine q_iadd (pc := 680) hG dL_law_680 (fun v680 e680 => ?_)
        have r_75 := (q_addN (lo := 1) (hi := 3067) e680 r_3 rl_1 (by decide)).2
        refine q_sld (pc := 681) hG hXs hbl hbA (by have o0 := e20; have o1 := (q_subN (lo := (-6)) (hi := 3066) e23 g20 rl_6 (by decide)).1; have o2 := c24; have o3 := (q_addN (lo := 1) (hi := 3067) e680 r_3 rl_1 (by decide)).1; have o4 := r_3; have o5 := g20; have o6 := r_4; have o7 := r_75; have l8 := tl_1; have l9 := tl_6; unfold q_r at o4 o5 o6 o7; omega) dL_law_681 (fun v681 e681 => ?_)
        refine q_aload_n (pc := 682) hG dL_law_682 0 rfl ?_
        refine q_iload_n (pc := 683) hG dL_law_683 3 rfl ?_
        refine q_iconst (pc := 684) hG dL_law_684 ki_2 ?_
        refine q_iadd (pc := 685) hG dL_law_685 (fun v685 e685 => ?_)
        have r_76 := (q_addN (lo := 2) (hi := 3068) e685 r_3 rl_2 (by decide)).2
        refine q_sld (pc := 686) hG hXs hbl hbA (by have o0 := e20; have o1 := (q_subN (lo := (-6)) (hi := 3066) e23 g20 rl_6 (by decide)).1; have o2 := c24; have o3 := (q_addN (lo := 1) (hi := 3067) e680 r_3 rl_1 (by decide)).1; have o4 := (q_addN (lo := 2) (hi := 3068) e685 r_3 rl_2 (by decide)).1; have o5 := r_3; have o6 := g20; have o7 := r_4; have o8 := r_75; have o9 := r_76; have l10 := tl_1; have l11 := tl_2; have l12 := tl_6; unfold q_r at o5 o6 o7 o8 o9; omega) dL_law_686 (fun v686 e686 => ?_)
        refine q_pV (pc := 687) [.int v681, .int v686] [] hG (c_X11_apart τ σ18 a1 v681 v686 hS18.1 tA1) my_X11_apart mv_X11_apart w539 dL_law_687 tA1 (by decide) rfl rfl (Nat.le_of_ble_eq_true rfl) (by decide) (fun v687 p687 => ?_)
        refine q_pop (pc := 690) hG dL_law_690 rfl ?_
        refine q_aload_n (pc := 691) hG dL_law_691 2 rfl ?_
        refine q_aload_n (pc := 692) hG dL_law_692 0 rfl ?_
        refine q_iload_n (pc := 693) hG dL_law_693 3 rfl ?_
        refine q_iconst (pc := 694) hG dL_law_694 ki_1 ?_
        refine q_iadd (pc := 695) hG dL_law_695 (fun v695 e695 => ?_)
        rw [e695.trans e680.symm]
        refine q_sld (pc := 696) hG hXs hbl hbA (by have o0 := e20; have o1 := (q_subN (lo := (-6)) (hi := 3066) e23 g20 rl_6 (by decide)).1; have o2 := c24; have o3 := (q_addN (lo := 1) (hi := 3067) e680 r_3 rl_1 (by decide)).1; have o4 := (q_addN (lo := 2) (hi := 3068) e685 r_3 rl_2 (by decide)).1; have o5 := r_3; have o6 := g20; have o7 := r_4; have o8 := r_75; have o9 := r_76; have l10 := tl_1; have l11 := tl_2; have l12 := tl_6; unfold q_r at o5 o6 o7 o8 o9; omega) dL_law_696 (fun v696 e696 => ?_)
        refine q_aload_n (pc := 697) hG dL_law_697 0 rfl ?_
        refine q_iload_n (pc := 698) hG dL_law_698 3 rfl ?_
        refine q_iconst (pc := 699) hG dL_law_699 ki_2 ?_
        refine q_iadd (pc := 700) hG dL_law_700 (fun v700 e700 => ?_)
        rw [e700.trans e685.symm]
        refine q_sld (pc := 701) hG hXs hbl hbA (by have o0 := e20; have o1 := (q_subN (lo := (-6)) (hi := 3066) e23 g20 rl_6 (by decide)).1; have o2 := c24; have o3 := (q_addN (lo := 1) (hi := 3067) e680 r_3 rl_1 (by decide)).1; have o4 := (q_addN (lo := 2) (hi := 3068) e685 r_3 rl_2 (by decide)).1; have o5 := r_3; have o6 := g20; have o7 := r_4; have o8 := r_75; have o9 := r_76; have l10 := tl_1; have l11 := tl_2; have l12 := tl_6; unfold q_r at o5 o6 o7 o8 o9; omega) dL_law_701 (fun v701 e701 => ?_)
        refine q_pV (pc := 702) [.int v696, .int v701] [] hG (c_X12_apart τ σ18 a2 v696 v701 hS18.1 tA2) my_X12_apart mv_X12_apart w1051 dL_law_702 tA2 (by decide) rfl rfl (Nat.le_of_ble_eq_true rfl) (by decide) (fun v702 p702 => ?_)
        refine q_pop (pc := 705) hG dL_law_705 rfl ?_
        refine q_goto (pc := 706) 1447 hG dL_law_706 rfl ?_
        refine q_lv [0, 1, 2, 3] rfl ?_
        exact J1447 σ18 KA18 KB18 DA18 DB18 EA18 EB18 TA18 TB18 hS18 ⟨iKA18.1, iKA18.2⟩ ⟨iKB18.1, iKB18.2⟩ (by have o0 := iKR18; have o1 := iER18; have o2 := iEA18.2; have o3 := iEB18.2; have o4 := iKA18.2; have o5 := iKB18.2; unfold q_r at o2 o3 o4 o5; omega) ⟨iDA18.1, iDA18.2⟩ ⟨iDB18.1, iDB18.2⟩ ⟨iEA18.1, iEA18.2⟩ ⟨iEB18.1, iEB18.2⟩ ⟨iTA18.1, iTA18.2⟩ ⟨iTB18.1, iTB18.2⟩ (by have o0 := iDR18; have o1 := iDA18.2; have o2 := iDB18.2; unfold q_r at o1 o2; omega) (by have o0 := iTR18; have o1 := iTA18.2; have o2 := iTB18.2; unfold q_r at o1 o2; omega) (by have o0 := iKR18; have o1 := iER18; have o2 := iEA18.2; have o3 := iEB18.2; have o4 := iKA18.2; have o5 := iKB18.2; unfold q_r at o2 o3 o4 o5; omega) iTC18 iRA18 iLW18 iNW18 iRE18 ⟨iV18.1, iV18.2⟩
      by_cases z33_15 : v32.toInt = 15
      · skip
        refine q_tsIn (pc := 33) 15 709 hG dL_law_33 z33_15 (by decide) rfl rfl ?_
        refine q_aload_n (pc := 709) hG dL_law_709 1 rfl ?_
        refine q_aload_n (pc := 710) hG dL_law_710 0 rfl ?_
        refine q_iload_n (pc := 711) hG dL_law_711 3 rfl ?_
        refine q_iconst (pc := 712) hG dL_law_712 ki_1 ?_
        refine q_iadd (pc := 713) hG dL_law_713 (fun v713 e713 => ?_)
        have r_77 := (q_addN (lo := 1) (hi := 3067) e713 r_3 rl_1 (by decide)).2
        refine q_sld (pc := 714) hG hXs hbl hbA (by have o0 := e20; have o1 := (q_subN (lo := (-6)) (hi := 3066) e23 g20 rl_6 (by decide)).1; have o2 := c24; have o3 := (q_addN (lo := 1) (hi := 3067) e713 r_3 rl_1 (by decide)).1; have o4 := r_3; have o5 := g20; have o6 := r_4; have o7 := r_77; have l8 := tl_1; have l9 := tl_6; unfold q_r at o4 o5 o6 o7; omega) dL_law_714 (fun v714 e714 => ?_)
        refine q_aload_n (pc := 715) hG dL_law_715 0 rfl ?_
        refine q_iload_n (pc := 716) hG dL_law_716 3 rfl ?_
        refine q_iconst (pc := 717) hG dL_law_717 ki_2 ?_
        refine q_iadd (pc := 718) hG dL_law_718 (fun v718 e718 => ?_)
        have r_78 := (q_addN (lo := 2) (hi := 3068) e718 r_3 rl_2 (by decide)).2
        refine q_sld (pc := 719) hG hXs hbl hbA (by have o0 := e20; have o1 := (q_subN (lo := (-6)) (hi := 3066) e23 g20 rl_6 (by decide)).1; have o2 := c24; have o3 := (q_addN (lo := 1) (hi := 3067) e713 r_3 rl_1 (by decide)).1; have o4 := (q_addN (lo := 2) (hi := 3068) e718 r_3 rl_2 (by decide)).1; have o5 := r_3; have o6 := g20; have o7 := r_4; have o8 := r_77; have o9 := r_78; have l10 := tl_1; have l11 := tl_2; have l12 := tl_6; unfold q_r at o5 o6 o7 o8 o9; omega) dL_law_719 (fun v719 e719 => ?_)
        refine q_aload_n (pc := 720) hG dL_law_720 0 rfl ?_
        refine q_iload_n (pc := 721) hG dL_law_721 3 rfl ?_
        refine q_iconst (pc := 722) hG dL_law_722 ki_3 ?_
        refine q_iadd (pc := 723) hG dL_law_723 (fun v723 e723 => ?_)
        have r_79 := (q_addN (lo := 3) (hi := 3069) e723 r_3 rl_3 (by decide)).2
        refine q_sld (pc := 724) hG hXs hbl hbA (by have o0 := e20; have o1 := (q_subN (lo := (-6)) (hi := 3066) e23 g20 rl_6 (by decide)).1; have o2 := c24; have o3 := (q_addN (lo := 1) (hi := 3067) e713 r_3 rl_1 (by decide)).1; have o4 := (q_addN (lo := 2) (hi := 3068) e718 r_3 rl_2 (by decide)).1; have o5 := (q_addN (lo := 3) (hi := 3069) e723 r_3 rl_3 (by decide)).1; have o6 := r_3; have o7 := g20; have o8 := r_4; have o9 := r_77; have o10 := r_78; have o11 := r_79; have l12 := tl_1; have l13 := tl_2; have l14 := tl_3; have l15 := tl_6; unfold q_r at o6 o7 o8 o9 o10 o11; omega) dL_law_724 (fun v724 e724 => ?_)
        refine q_pV (pc := 725) [.int v714, .int v719, .int v724] [] hG (c_X11_seen τ σ18 a1 v714 v719 v724 hS18.1 tA1) my_X11_seen mv_X11_seen w563 dL_law_725 tA1 (by decide) rfl rfl (Nat.le_of_ble_eq_true rfl) (by decide) (fun v725 p725 => ?_)
        refine q_pop (pc := 728) hG dL_law_728 rfl ?_
        refine q_aload_n (pc := 729) hG dL_law_729 2 rfl ?_
        refine q_aload_n (pc := 730) hG dL_law_730 0 rfl ?_
        refine q_iload_n (pc := 731) hG dL_law_731 3 rfl ?_
        refine q_iconst (pc := 732) hG dL_law_732 ki_1 ?_
        refine q_iadd (pc := 733) hG dL_law_733 (fun v733 e733 => ?_)
        rw [e733.trans e713.symm]
        refine q_sld (pc := 734) hG hXs hbl hbA (by have o0 := e20; have o1 := (q_subN (lo := (-6)) (hi := 3066) e23 g20 rl_6 (by decide)).1; have o2 := c24; have o3 := (q_addN (lo := 1) (hi := 3067) e713 r_3 rl_1 (by decide)).1; have o4 := (q_addN (lo := 2) (hi := 3068) e718 r_3 rl_2 (by decide)).1; have o5 := (q_addN (lo := 3) (hi := 3069) e723 r_3 rl_3 (by decide)).1; have o6 := r_3; have o7 := g20; have o8 := r_4; have o9 := r_77; have o10 := r_78; have o11 := r_79; have l12 := tl_1; have l13 := tl_2; have l14 := tl_3; have l15 := tl_6; unfold q_r at o6 o7 o8 o9 o10 o11; omega) dL_law_734 (fun v734 e734 => ?_)
        refine q_aload_n (pc := 735) hG dL_law_735 0 rfl ?_
        refine q_iload_n (pc := 736) hG dL_law_736 3 rfl ?_
        refine q_iconst (pc := 737) hG dL_law_737 ki_2 ?_
        refine q_iadd (pc := 738) hG dL_law_738 (fun v738 e738 => ?_)
        rw [e738.trans e718.symm]
        refine q_sld (pc := 739) hG hXs hbl hbA (by have o0 := e20; have o1 := (q_subN (lo := (-6)) (hi := 3066) e23 g20 rl_6 (by decide)).1; have o2 := c24; have o3 := (q_addN (lo := 1) (hi := 3067) e713 r_3 rl_1 (by decide)).1; have o4 := (q_addN (lo := 2) (hi := 3068) e718 r_3 rl_2 (by decide)).1; have o5 := (q_addN (lo := 3) (hi := 3069) e723 r_3 rl_3 (by decide)).1; have o6 := r_3; have o7 := g20; have o8 := r_4; have o9 := r_77; have o10 := r_78; have o11 := r_79; have l12 := tl_1; have l13 := tl_2; have l14 := tl_3; have l15 := tl_6; unfold q_r at o6 o7 o8 o9 o10 o11; omega) dL_law_739 (fun v739 e739 => ?_)
        refine q_aload_n (pc := 740) hG dL_law_740 0 rfl ?_
        refine q_iload_n (pc := 741) hG dL_law_741 3 rfl ?_
        refine q_iconst (pc := 742) hG dL_law_742 ki_3 ?_
        refine q_iadd (pc := 743) hG dL_law_743 (fun v743 e743 => ?_)
        rw [e743.trans e723.symm]
        refine q_sld (pc := 744) hG hXs hbl hbA (by have o0 := e20; have o1 := (q_subN (lo := (-6)) (hi := 3066) e23 g20 rl_6 (by decide)).1; have o2 := c24; have o3 := (q_addN (lo := 1) (hi := 3067) e713 r_3 rl_1 (by decide)).1; have o4 := (q_addN (lo := 2) (hi := 3068) e718 r_3 rl_2 (by decide)).1; have o5 := (q_addN (lo := 3) (hi := 3069) e723 r_3 rl_3 (by decide)).1; have o6 := r_3; have o7 := g20; have o8 := r_4; have o9 := r_77; have o10 := r_78; have o11 := r_79; have l12 := tl_1; have l13 := tl_2; have l14 := tl_3; have l15 := tl_6; unfold q_r at o6 o7 o8 o9 o10 o11; omega) dL_law_744 (fun v744 e744 => ?_)
        refine q_pV (pc := 745) [.int v734, .int v739, .int v744] [] hG (c_X12_seen τ σ18 a2 v734 v739 v744 hS18.1 tA2) my_X12_seen mv_X12_seen w1071 dL_law_745 tA2 (by decide) rfl rfl (Nat.le_of_ble_eq_true rfl) (by decide) (fun v745 p745 => ?_)
        refine q_pop (pc := 748) hG dL_law_748 rfl ?_
        refine q_goto (pc := 749) 1447 hG dL_law_749 rfl ?_
        refine q_lv [0, 1, 2, 3] rfl ?_
        exact J1447 σ18 KA18 KB18 DA18 DB18 EA18 EB18 TA18 TB18 hS18 ⟨iKA18.1, iKA18.2⟩ ⟨iKB18.1, iKB18.2⟩ (by have o0 := iKR18; have o1 := iER18; have o2 := iEA18.2; have o3 := iEB18.2; have o4 := iKA18.2; have o5 := iKB18.2; unfold q_r at o2 o3 o4 o5; omega) ⟨iDA18.1, iDA18.2⟩ ⟨iDB18.1, iDB18.2⟩ ⟨iEA18.1, iEA18.2⟩ ⟨iEB18.1, iEB18.2⟩ ⟨iTA18.1, iTA18.2⟩ ⟨iTB18.1, iTB18.2⟩ (by have o0 := iDR18; have o1 := iDA18.2; have o2 := iDB18.2; unfold q_r at o1 o2; omega) (by have o0 := iTR18; have o1 := iTA18.2; have o2 := iTB18.2; unfold q_r at o1 o2; omega) (by have o0 := iKR18; have o1 := iER18; have o2 := iEA18.2; have o3 := iEB18.2; have o4 := iKA18.2; have o5 := iKB18.2; unfold q_r at o2 o3 o4 o5; omega) iTC18 iRA18 iLW18 iNW18 iRE18 ⟨iV18.1, iV18.2⟩
      by_cases z33_16 : v32.toInt = 16
      · skip
        refine q_tsIn (pc := 33) 16 752 hG dL_law_33 z33_16 (by decide) rfl rfl ?_
        refine q_aload_n (pc := 752) hG dL_law_752 1 rfl ?_
        refine q_aload_n (pc := 753) hG dL_law_753 0 rfl ?_
        refine q_iload_n (pc := 754) hG dL_law_754 3 rfl ?_
        refine q_iconst (pc := 755) hG dL_law_755 ki_1 ?_
        refine q_iadd (pc := 756) hG dL_law_756 (fun v756 e756 => ?_)
        have r_80 := (q_addN (lo := 1) (hi := 3067) e756 r_3 rl_1 (by decide)).2
        refine q_sld (pc := 757) hG hXs hbl hbA (by have o0 := e20; have o1 := (q_subN (lo := (-6)) (hi := 3066) e23 g20 rl_6 (by decide)).1; have o2 := c24; have o3 := (q_addN (lo := 1) (hi := 3067) e756 r_3 rl_1 (by decide)).1; have o4 := r_3; have o5 := g20; have o6 := r_4; have o7 := r_80; have l8 := tl_1; have l9 := tl_6; unfold q_r at o4 o5 o6 o7; omega) dL_law_757 (fun v757 e757 => ?_)
        refine q_aload_n (pc := 758) hG dL_law_758 0 rfl ?_
        refine q_iload_n (pc := 759) hG dL_law_759 3 rfl ?_
        refine q_iconst (pc := 760) hG dL_law_760 ki_2 ?_
        refine q_iadd (pc := 761) hG dL_law_761 (fun v761 e761 => ?_)
        have r_81 := (q_addN (lo := 2) (hi := 3068) e761 r_3 rl_2 (by decide)).2
        refine q_sld (pc := 762) hG hXs hbl hbA (by have o0 := e20; have o1 := (q_subN (lo := (-6)) (hi := 3066) e23 g20 rl_6 (by decide)).1; have o2 := c24; have o3 := (q_addN (lo := 1) (hi := 3067) e756 r_3 rl_1 (by decide)).1; have o4 := (q_addN (lo := 2) (hi := 3068) e761 r_3 rl_2 (by decide)).1; have o5 := r_3; have o6 := g20; have o7 := r_4; have o8 := r_80; have o9 := r_81; have l10 := tl_1; have l11 := tl_2; have l12 := tl_6; unfold q_r at o5 o6 o7 o8 o9; omega) dL_law_762 (fun v762 e762 => ?_)
        refine q_cVi (pc := 763) [.int v757, .int v762] [] hG (c_X11_marked τ σ18 a1 v757 v762 hS18.1 tA1) my_X11_marked mv_X11_marked w574 dL_law_763 tA1 (by decide) rfl rfl (Nat.le_of_ble_eq_true rfl) (by decide) (fun v763 s763 p763 => ?_)
        have w763 := hS18.trans p763.1 rfl
        refine q_pop (pc := 766) hG dL_law_766 rfl ?_
        refine q_aload_n (pc := 767) hG dL_law_767 2 rfl ?_
        refine q_aload_n (pc := 768) hG dL_law_768 0 rfl ?_
        refine q_iload_n (pc := 769) hG dL_law_769 3 rfl ?_
        refine q_iconst (pc := 770) hG dL_law_770 ki_1 ?_
        refine q_iadd (pc := 771) hG dL_law_771 (fun v771 e771 => ?_)
        rw [e771.trans e756.symm]
        refine q_sld (pc := 772) hG hXs hbl hbA (by have o0 := e20; have o1 := (q_subN (lo := (-6)) (hi := 3066) e23 g20 rl_6 (by decide)).1; have o2 := c24; have o3 := (q_addN (lo := 1) (hi := 3067) e756 r_3 rl_1 (by decide)).1; have o4 := (q_addN (lo := 2) (hi := 3068) e761 r_3 rl_2 (by decide)).1; have o5 := r_3; have o6 := g20; have o7 := r_4; have o8 := r_80; have o9 := r_81; have l10 := tl_1; have l11 := tl_2; have l12 := tl_6; unfold q_r at o5 o6 o7 o8 o9; omega) dL_law_772 (fun v772 e772 => ?_)
        refine q_aload_n (pc := 773) hG dL_law_773 0 rfl ?_
        refine q_iload_n (pc := 774) hG dL_law_774 3 rfl ?_
        refine q_iconst (pc := 775) hG dL_law_775 ki_2 ?_
        refine q_iadd (pc := 776) hG dL_law_776 (fun v776 e776 => ?_)
        rw [e776.trans e761.symm]
        refine q_sld (pc := 777) hG hXs hbl hbA (by have o0 := e20; have o1 := (q_subN (lo := (-6)) (hi := 3066) e23 g20 rl_6 (by decide)).1; have o2 := c24; have o3 := (q_addN (lo := 1) (hi := 3067) e756 r_3 rl_1 (by decide)).1; have o4 := (q_addN (lo := 2) (hi := 3068) e761 r_3 rl_2 (by decide)).1; have o5 := r_3; have o6 := g20; have o7 := r_4; have o8 := r_80; have o9 := r_81; have l10 := tl_1; have l11 := tl_2; have l12 := tl_6; unfold q_r at o5 o6 o7 o8 o9; omega) dL_law_777 (fun v777 e777 => ?_)
        refine q_cVi (pc := 778) [.int v772, .int v777] [] hG (c_X12_marked τ s763 a2 v772 v777 w763.1 tA2 (q_wf.keep hS18.1 p763.1.2 tA2 rfl iV18.1)) my_X12_marked mv_X12_marked w1084 dL_law_778 tA2 (by decide) rfl rfl (Nat.le_of_ble_eq_true rfl) (by decide) (fun v778 s778 p778 => ?_)
        have w778 := w763.trans p778.1 rfl
        refine q_pop (pc := 781) hG dL_law_781 rfl ?_
        refine q_goto (pc := 782) 1447 hG dL_law_782 rfl ?_
        refine q_lv [0, 1, 2, 3] rfl ?_
        have ra_82 : zz_rs (fx_N s778) c0 c1 c2 bn := (zz_rs.C (zz_rs.C iRA18 p763.1 rfl Tc0 Tc1 Tc2 (fun j _ => p763.1.2.arr Tbn (by decide) rfl)) p778.1 rfl Tc0 Tc1 Tc2 (fun j _ => p778.1.2.arr Tbn (by decide) rfl))
        have lw_83 : zi_L a1 a2 (fx_N s778) := (zi_L.C w763.1 tA1 tA2 p778.1 rfl (zi_L.C hS18.1 tA1 tA2 p763.1 rfl iLW18))
        have nw_84 : zw_L τ a1 a2 (fx_N s778) := (zw_L.C tA1 tA2 p778.1 rfl (zw_L.C tA1 tA2 p763.1 rfl iNW18))
        exact J1447 s778 KA18 KB18 DA18 DB18 EA18 EB18 TA18 TB18 w778 ⟨(p778.1.same tA1 rfl (p763.1.same tA1 rfl iKA18.1)), iKA18.2⟩ ⟨(p778.1.same tA2 rfl (p763.1.same tA2 rfl iKB18.1)), iKB18.2⟩ (by have o0 := iKR18; have o1 := iER18; have o2 := iEA18.2; have o3 := iEB18.2; have o4 := iKA18.2; have o5 := iKB18.2; unfold q_r at o2 o3 o4 o5; omega) ⟨(p778.1.same Tbr rfl (p763.1.same Tbr rfl iDA18.1)), iDA18.2⟩ ⟨(p778.1.same Tbn rfl (p763.1.same Tbn rfl iDB18.1)), iDB18.2⟩ ⟨(p778.1.same Tbk rfl (p763.1.same Tbk rfl iEA18.1)), iEA18.2⟩ ⟨(p778.1.same Tbm rfl (p763.1.same Tbm rfl iEB18.1)), iEB18.2⟩ ⟨(p778.1.same tA1 rfl (p763.1.same tA1 rfl iTA18.1)), iTA18.2⟩ ⟨(p778.1.same tA2 rfl (p763.1.same tA2 rfl iTB18.1)), iTB18.2⟩ (by have o0 := iDR18; have o1 := iDA18.2; have o2 := iDB18.2; unfold q_r at o1 o2; omega) (by have o0 := iTR18; have o1 := iTA18.2; have o2 := iTB18.2; unfold q_r at o1 o2; omega) (by have o0 := iKR18; have o1 := iER18; have o2 := iEA18.2; have o3 := iEB18.2; have o4 := iKA18.2; have o5 := iKB18.2; unfold q_r at o2 o3 o4 o5; omega) (zz_tc.keep (zz_tc.keep iTC18 p763.1.2 Tta Ttb rfl rfl) p778.1.2 Tta Ttb rfl rfl) ra_82 lw_83 nw_84 (Or.imp id (fun z => zz_rs.C z p778.1 rfl Te0 Te1 Te2 (fun j _ => p778.1.2.arr Tbm (by decide) rfl)) (Or.imp id (fun z => zz_rs.C z p763.1 rfl Te0 Te1 Te2 (fun j _ => p763.1.2.arr Tbm (by decide) rfl)) iRE18)) ⟨(q_wf.keep w763.1 p778.1.2 tA2 rfl (q_wf.keep hS18.1 p763.1.2 tA2 rfl iV18.1)), (q_kp.keep w763.1 p778.1.2 tA2 rfl (q_kp.keep hS18.1 p763.1.2 tA2 rfl iV18.2))⟩
      by_cases z33_17 : v32.toInt = 17
      · skip
        refine q_tsIn (pc := 33) 17 785 hG dL_law_33 z33_17 (by decide) rfl rfl ?_
        refine q_aload_n (pc := 785) hG dL_law_785 1 rfl ?_
        refine q_aload_n (pc := 786) hG dL_law_786 0 rfl ?_
        refine q_iload_n (pc := 787) hG dL_law_787 3 rfl ?_
        refine q_iconst (pc := 788) hG dL_law_788 ki_1 ?_
        refine q_iadd (pc := 789) hG dL_law_789 (fun v789 e789 => ?_)
        have r_85 := (q_addN (lo := 1) (hi := 3067) e789 r_3 rl_1 (by decide)).2
        refine q_sld (pc := 790) hG hXs hbl hbA (by have o0 := e20; have o1 := (q_subN (lo := (-6)) (hi := 3066) e23 g20 rl_6 (by decide)).1; have o2 := c24; have o3 := (q_addN (lo := 1) (hi := 3067) e789 r_3 rl_1 (by decide)).1; have o4 := r_3; have o5 := g20; have o6 := r_4; have o7 := r_85; have l8 := tl_1; have l9 := tl_6; unfold q_r at o4 o5 o6 o7; omega) dL_law_790 (fun v790 e790 => ?_)
        refine q_aload_n (pc := 791) hG dL_law_791 0 rfl ?_
        refine q_iload_n (pc := 792) hG dL_law_792 3 rfl ?_
        refine q_iconst (pc := 793) hG dL_law_793 ki_2 ?_
        refine q_iadd (pc := 794) hG dL_law_794 (fun v794 e794 => ?_)
        have r_86 := (q_addN (lo := 2) (hi := 3068) e794 r_3 rl_2 (by decide)).2
        refine q_sld (pc := 795) hG hXs hbl hbA (by have o0 := e20; have o1 := (q_subN (lo := (-6)) (hi := 3066) e23 g20 rl_6 (by decide)).1; have o2 := c24; have o3 := (q_addN (lo := 1) (hi := 3067) e789 r_3 rl_1 (by decide)).1; have o4 := (q_addN (lo := 2) (hi := 3068) e794 r_3 rl_2 (by decide)).1; have o5 := r_3; have o6 := g20; have o7 := r_4; have o8 := r_85; have o9 := r_86; have l10 := tl_1; have l11 := tl_2; have l12 := tl_6; unfold q_r at o5 o6 o7 o8 o9; omega) dL_law_795 (fun v795 e795 => ?_)
        refine q_aload_n (pc := 796) hG dL_law_796 0 rfl ?_
        refine q_iload_n (pc := 797) hG dL_law_797 3 rfl ?_
        refine q_iconst (pc := 798) hG dL_law_798 ki_3 ?_
        refine q_iadd (pc := 799) hG dL_law_799 (fun v799 e799 => ?_)
        have r_87 := (q_addN (lo := 3) (hi := 3069) e799 r_3 rl_3 (by decide)).2
        refine q_sld (pc := 800) hG hXs hbl hbA (by have o0 := e20; have o1 := (q_subN (lo := (-6)) (hi := 3066) e23 g20 rl_6 (by decide)).1; have o2 := c24; have o3 := (q_addN (lo := 1) (hi := 3067) e789 r_3 rl_1 (by decide)).1; have o4 := (q_addN (lo := 2) (hi := 3068) e794 r_3 rl_2 (by decide)).1; have o5 := (q_addN (lo := 3) (hi := 3069) e799 r_3 rl_3 (by decide)).1; have o6 := r_3; have o7 := g20; have o8 := r_4; have o9 := r_85; have o10 := r_86; have o11 := r_87; have l12 := tl_1; have l13 := tl_2; have l14 := tl_3; have l15 := tl_6; unfold q_r at o6 o7 o8 o9 o10 o11; omega) dL_law_800 (fun v800 e800 => ?_)
        refine q_cVi (pc := 801) [.int v790, .int v795, .int v800] [] hG (c_X11_markings τ σ18 a1 v790 v795 v800 hS18.1 tA1) my_X11_markings mv_X11_markings w589 dL_law_801 tA1 (by decide) rfl rfl (Nat.le_of_ble_eq_true rfl) (by decide) (fun v801 s801 p801 => ?_)
        have w801 := hS18.trans p801.1 rfl
        refine q_pop (pc := 804) hG dL_law_804 rfl ?_
        refine q_aload_n (pc := 805) hG dL_law_805 2 rfl ?_
        refine q_aload_n (pc := 806) hG dL_law_806 0 rfl ?_
        refine q_iload_n (pc := 807) hG dL_law_807 3 rfl ?_
        refine q_iconst (pc := 808) hG dL_law_808 ki_1 ?_
        refine q_iadd (pc := 809) hG dL_law_809 (fun v809 e809 => ?_)
        rw [e809.trans e789.symm]
        refine q_sld (pc := 810) hG hXs hbl hbA (by have o0 := e20; have o1 := (q_subN (lo := (-6)) (hi := 3066) e23 g20 rl_6 (by decide)).1; have o2 := c24; have o3 := (q_addN (lo := 1) (hi := 3067) e789 r_3 rl_1 (by decide)).1; have o4 := (q_addN (lo := 2) (hi := 3068) e794 r_3 rl_2 (by decide)).1; have o5 := (q_addN (lo := 3) (hi := 3069) e799 r_3 rl_3 (by decide)).1; have o6 := r_3; have o7 := g20; have o8 := r_4; have o9 := r_85; have o10 := r_86; have o11 := r_87; have l12 := tl_1; have l13 := tl_2; have l14 := tl_3; have l15 := tl_6; unfold q_r at o6 o7 o8 o9 o10 o11; omega) dL_law_810 (fun v810 e810 => ?_)
        refine q_aload_n (pc := 811) hG dL_law_811 0 rfl ?_
        refine q_iload_n (pc := 812) hG dL_law_812 3 rfl ?_
        refine q_iconst (pc := 813) hG dL_law_813 ki_2 ?_
        refine q_iadd (pc := 814) hG dL_law_814 (fun v814 e814 => ?_)
        rw [e814.trans e794.symm]
        refine q_sld (pc := 815) hG hXs hbl hbA (by have o0 := e20; have o1 := (q_subN (lo := (-6)) (hi := 3066) e23 g20 rl_6 (by decide)).1; have o2 := c24; have o3 := (q_addN (lo := 1) (hi := 3067) e789 r_3 rl_1 (by decide)).1; have o4 := (q_addN (lo := 2) (hi := 3068) e794 r_3 rl_2 (by decide)).1; have o5 := (q_addN (lo := 3) (hi := 3069) e799 r_3 rl_3 (by decide)).1; have o6 := r_3; have o7 := g20; have o8 := r_4; have o9 := r_85; have o10 := r_86; have o11 := r_87; have l12 := tl_1; have l13 := tl_2; have l14 := tl_3; have l15 := tl_6; unfold q_r at o6 o7 o8 o9 o10 o11; omega) dL_law_815 (fun v815 e815 => ?_)
        refine q_aload_n (pc := 816) hG dL_law_816 0 rfl ?_
        refine q_iload_n (pc := 817) hG dL_law_817 3 rfl ?_
        refine q_iconst (pc := 818) hG dL_law_818 ki_3 ?_
        refine q_iadd (pc := 819) hG dL_law_819 (fun v819 e819 => ?_)
        rw [e819.trans e799.symm]
        refine q_sld (pc := 820) hG hXs hbl hbA (by have o0 := e20; have o1 := (q_subN (lo := (-6)) (hi := 3066) e23 g20 rl_6 (by decide)).1; have o2 := c24; have o3 := (q_addN (lo := 1) (hi := 3067) e789 r_3 rl_1 (by decide)).1; have o4 := (q_addN (lo := 2) (hi := 3068) e794 r_3 rl_2 (by decide)).1; have o5 := (q_addN (lo := 3) (hi := 3069) e799 r_3 rl_3 (by decide)).1; have o6 := r_3; have o7 := g20; have o8 := r_4; have o9 := r_85; have o10 := r_86; have o11 := r_87; have l12 := tl_1; have l13 := tl_2; have l14 := tl_3; have l15 := tl_6; unfold q_r at o6 o7 o8 o9 o10 o11; omega) dL_law_820 (fun v820 e820 => ?_)
        refine q_cVi (pc := 821) [.int v810, .int v815, .int v820] [] hG (c_X12_markings τ s801 a2 v810 v815 v820 w801.1 tA2 (q_wf.keep hS18.1 p801.1.2 tA2 rfl iV18.1)) my_X12_markings mv_X12_markings w1097 dL_law_821 tA2 (by decide) rfl rfl (Nat.le_of_ble_eq_true rfl) (by decide) (fun v821 s821 p821 => ?_)
        have w821 := w801.trans p821.1 rfl
        refine q_pop (pc := 824) hG dL_law_824 rfl ?_
        refine q_goto (pc := 825) 1447 hG dL_law_825 rfl ?_
        refine q_lv [0, 1, 2, 3] rfl ?_
        have ra_88 : zz_rs (fx_N s821) c0 c1 c2 bn := (zz_rs.C (zz_rs.C iRA18 p801.1 rfl Tc0 Tc1 Tc2 (fun j _ => p801.1.2.arr Tbn (by decide) rfl)) p821.1 rfl Tc0 Tc1 Tc2 (fun j _ => p821.1.2.arr Tbn (by decide) rfl))
        have lw_89 : zi_L a1 a2 (fx_N s821) := (zi_L.C w801.1 tA1 tA2 p821.1 rfl (zi_L.C hS18.1 tA1 tA2 p801.1 rfl iLW18))
        have nw_90 : zw_L τ a1 a2 (fx_N s821) := (zw_L.C tA1 tA2 p821.1 rfl (zw_L.C tA1 tA2 p801.1 rfl iNW18))
        exact J1447 s821 KA18 KB18 DA18 DB18 EA18 EB18 TA18 TB18 w821 ⟨(p821.1.same tA1 rfl (p801.1.same tA1 rfl iKA18.1)), iKA18.2⟩ ⟨(p821.1.same tA2 rfl (p801.1.same tA2 rfl iKB18.1)), iKB18.2⟩ (by have o0 := iKR18; have o1 := iER18; have o2 := iEA18.2; have o3 := iEB18.2; have o4 := iKA18.2; have o5 := iKB18.2; unfold q_r at o2 o3 o4 o5; omega) ⟨(p821.1.same Tbr rfl (p801.1.same Tbr rfl iDA18.1)), iDA18.2⟩ ⟨(p821.1.same Tbn rfl (p801.1.same Tbn rfl iDB18.1)), iDB18.2⟩ ⟨(p821.1.same Tbk rfl (p801.1.same Tbk rfl iEA18.1)), iEA18.2⟩ ⟨(p821.1.same Tbm rfl (p801.1.same Tbm rfl iEB18.1)), iEB18.2⟩ ⟨(p821.1.same tA1 rfl (p801.1.same tA1 rfl iTA18.1)), iTA18.2⟩ ⟨(p821.1.same tA2 rfl (p801.1.same tA2 rfl iTB18.1)), iTB18.2⟩ (by have o0 := iDR18; have o1 := iDA18.2; have o2 := iDB18.2; unfold q_r at o1 o2; omega) (by have o0 := iTR18; have o1 := iTA18.2; have o2 := iTB18.2; unfold q_r at o1 o2; omega) (by have o0 := iKR18; have o1 := iER18; have o2 := iEA18.2; have o3 := iEB18.2; have o4 := iKA18.2; have o5 := iKB18.2; unfold q_r at o2 o3 o4 o5; omega) (zz_tc.keep (zz_tc.keep iTC18 p801.1.2 Tta Ttb rfl rfl) p821.1.2 Tta Ttb rfl rfl) ra_88 lw_89 nw_90 (Or.imp id (fun z => zz_rs.C z p821.1 rfl Te0 Te1 Te2 (fun j _ => p821.1.2.arr Tbm (by decide) rfl)) (Or.imp id (fun z => zz_rs.C z p801.1 rfl Te0 Te1 Te2 (fun j _ => p801.1.2.arr Tbm (by decide) rfl)) iRE18)) ⟨(q_wf.keep w801.1 p821.1.2 tA2 rfl (q_wf.keep hS18.1 p801.1.2 tA2 rfl iV18.1)), (q_kp.keep w801.1 p821.1.2 tA2 rfl (q_kp.keep hS18.1 p801.1.2 tA2 rfl iV18.2))⟩
      by_cases z33_18 : v32.toInt = 18
      · skip
        refine q_tsIn (pc := 33) 18 828 hG dL_law_33 z33_18 (by decide) rfl rfl ?_
        refine q_aload_n (pc := 828) hG dL_law_828 1 rfl ?_
        refine q_aload_n (pc := 829) hG dL_law_829 0 rfl ?_
        refine q_iload_n (pc := 830) hG dL_law_830 3 rfl ?_
        refine q_iconst (pc := 831) hG dL_law_831 ki_1 ?_
        refine q_iadd (pc := 832) hG dL_law_832 (fun v832 e832 => ?_)
        have r_91 := (q_addN (lo := 1) (hi := 3067) e832 r_3 rl_1 (by decide)).2
        refine q_sld (pc := 833) hG hXs hbl hbA (by have o0 := e20; have o1 := (q_subN (lo := (-6)) (hi := 3066) e23 g20 rl_6 (by decide)).1; have o2 := c24; have o3 := (q_addN (lo := 1) (hi := 3067) e832 r_3 rl_1 (by decide)).1; have o4 := r_3; have o5 := g20; have o6 := r_4; have o7 := r_91; have l8 := tl_1; have l9 := tl_6; unfold q_r at o4 o5 o6 o7; omega) dL_law_833 (fun v833 e833 => ?_)
        refine q_aload_n (pc := 834) hG dL_law_834 0 rfl ?_
        refine q_iload_n (pc := 835) hG dL_law_835 3 rfl ?_
        refine q_iconst (pc := 836) hG dL_law_836 ki_2 ?_
        refine q_iadd (pc := 837) hG dL_law_837 (fun v837 e837 => ?_)
        have r_92 := (q_addN (lo := 2) (hi := 3068) e837 r_3 rl_2 (by decide)).2
        refine q_sld (pc := 838) hG hXs hbl hbA (by have o0 := e20; have o1 := (q_subN (lo := (-6)) (hi := 3066) e23 g20 rl_6 (by decide)).1; have o2 := c24; have o3 := (q_addN (lo := 1) (hi := 3067) e832 r_3 rl_1 (by decide)).1; have o4 := (q_addN (lo := 2) (hi := 3068) e837 r_3 rl_2 (by decide)).1; have o5 := r_3; have o6 := g20; have o7 := r_4; have o8 := r_91; have o9 := r_92; have l10 := tl_1; have l11 := tl_2; have l12 := tl_6; unfold q_r at o5 o6 o7 o8 o9; omega) dL_law_838 (fun v838 e838 => ?_)
        refine q_aload_n (pc := 839) hG dL_law_839 0 rfl ?_
        refine q_iload_n (pc := 840) hG dL_law_840 3 rfl ?_
        refine q_iconst (pc := 841) hG dL_law_841 ki_3 ?_
        refine q_iadd (pc := 842) hG dL_law_842 (fun v842 e842 => ?_)
        have r_93 := (q_addN (lo := 3) (hi := 3069) e842 r_3 rl_3 (by decide)).2
        refine q_sld (pc := 843) hG hXs hbl hbA (by have o0 := e20; have o1 := (q_subN (lo := (-6)) (hi := 3066) e23 g20 rl_6 (by decide)).1; have o2 := c24; have o3 := (q_addN (lo := 1) (hi := 3067) e832 r_3 rl_1 (by decide)).1; have o4 := (q_addN (lo := 2) (hi := 3068) e837 r_3 rl_2 (by decide)).1; have o5 := (q_addN (lo := 3) (hi := 3069) e842 r_3 rl_3 (by decide)).1; have o6 := r_3; have o7 := g20; have o8 := r_4; have o9 := r_91; have o10 := r_92; have o11 := r_93; have l12 := tl_1; have l13 := tl_2; have l14 := tl_3; have l15 := tl_6; unfold q_r at o6 o7 o8 o9 o10 o11; omega) dL_law_843 (fun v843 e843 => ?_)
        refine q_pV (pc := 844) [.int v833, .int v838, .int v843] [] hG (c_X11_joins τ σ18 a1 v833 v838 v843 hS18.1 tA1) my_X11_joins mv_X11_joins w593 dL_law_844 tA1 (by decide) rfl rfl (Nat.le_of_ble_eq_true rfl) (by decide) (fun v844 p844 => ?_)
        refine q_pop (pc := 847) hG dL_law_847 rfl ?_
        refine q_aload_n (pc := 848) hG dL_law_848 2 rfl ?_
        refine q_aload_n (pc := 849) hG dL_law_849 0 rfl ?_
        refine q_iload_n (pc := 850) hG dL_law_850 3 rfl ?_
        refine q_iconst (pc := 851) hG dL_law_851 ki_1 ?_
        refine q_iadd (pc := 852) hG dL_law_852 (fun v852 e852 => ?_)
        rw [e852.trans e832.symm]
        refine q_sld (pc := 853) hG hXs hbl hbA (by have o0 := e20; have o1 := (q_subN (lo := (-6)) (hi := 3066) e23 g20 rl_6 (by decide)).1; have o2 := c24; have o3 := (q_addN (lo := 1) (hi := 3067) e832 r_3 rl_1 (by decide)).1; have o4 := (q_addN (lo := 2) (hi := 3068) e837 r_3 rl_2 (by decide)).1; have o5 := (q_addN (lo := 3) (hi := 3069) e842 r_3 rl_3 (by decide)).1; have o6 := r_3; have o7 := g20; have o8 := r_4; have o9 := r_91; have o10 := r_92; have o11 := r_93; have l12 := tl_1; have l13 := tl_2; have l14 := tl_3; have l15 := tl_6; unfold q_r at o6 o7 o8 o9 o10 o11; omega) dL_law_853 (fun v853 e853 => ?_)
        refine q_aload_n (pc := 854) hG dL_law_854 0 rfl ?_
        refine q_iload_n (pc := 855) hG dL_law_855 3 rfl ?_
        refine q_iconst (pc := 856) hG dL_law_856 ki_2 ?_
        refine q_iadd (pc := 857) hG dL_law_857 (fun v857 e857 => ?_)
        rw [e857.trans e837.symm]
        refine q_sld (pc := 858) hG hXs hbl hbA (by have o0 := e20; have o1 := (q_subN (lo := (-6)) (hi := 3066) e23 g20 rl_6 (by decide)).1; have o2 := c24; have o3 := (q_addN (lo := 1) (hi := 3067) e832 r_3 rl_1 (by decide)).1; have o4 := (q_addN (lo := 2) (hi := 3068) e837 r_3 rl_2 (by decide)).1; have o5 := (q_addN (lo := 3) (hi := 3069) e842 r_3 rl_3 (by decide)).1; have o6 := r_3; have o7 := g20; have o8 := r_4; have o9 := r_91; have o10 := r_92; have o11 := r_93; have l12 := tl_1; have l13 := tl_2; have l14 := tl_3; have l15 := tl_6; unfold q_r at o6 o7 o8 o9 o10 o11; omega) dL_law_858 (fun v858 e858 => ?_)
        refine q_aload_n (pc := 859) hG dL_law_859 0 rfl ?_
        refine q_iload_n (pc := 860) hG dL_law_860 3 rfl ?_
        refine q_iconst (pc := 861) hG dL_law_861 ki_3 ?_
        refine q_iadd (pc := 862) hG dL_law_862 (fun v862 e862 => ?_)
        rw [e862.trans e842.symm]
        refine q_sld (pc := 863) hG hXs hbl hbA (by have o0 := e20; have o1 := (q_subN (lo := (-6)) (hi := 3066) e23 g20 rl_6 (by decide)).1; have o2 := c24; have o3 := (q_addN (lo := 1) (hi := 3067) e832 r_3 rl_1 (by decide)).1; have o4 := (q_addN (lo := 2) (hi := 3068) e837 r_3 rl_2 (by decide)).1; have o5 := (q_addN (lo := 3) (hi := 3069) e842 r_3 rl_3 (by decide)).1; have o6 := r_3; have o7 := g20; have o8 := r_4; have o9 := r_91; have o10 := r_92; have o11 := r_93; have l12 := tl_1; have l13 := tl_2; have l14 := tl_3; have l15 := tl_6; unfold q_r at o6 o7 o8 o9 o10 o11; omega) dL_law_863 (fun v863 e863 => ?_)
        refine q_pV (pc := 864) [.int v853, .int v858, .int v863] [] hG (c_X12_joins τ σ18 a2 v853 v858 v863 hS18.1 tA2) my_X12_joins mv_X12_joins w1105 dL_law_864 tA2 (by decide) rfl rfl (Nat.le_of_ble_eq_true rfl) (by decide) (fun v864 p864 => ?_)
        refine q_pop (pc := 867) hG dL_law_867 rfl ?_
        refine q_goto (pc := 868) 1447 hG dL_law_868 rfl ?_
        refine q_lv [0, 1, 2, 3] rfl ?_
        exact J1447 σ18 KA18 KB18 DA18 DB18 EA18 EB18 TA18 TB18 hS18 ⟨iKA18.1, iKA18.2⟩ ⟨iKB18.1, iKB18.2⟩ (by have o0 := iKR18; have o1 := iER18; have o2 := iEA18.2; have o3 := iEB18.2; have o4 := iKA18.2; have o5 := iKB18.2; unfold q_r at o2 o3 o4 o5; omega) ⟨iDA18.1, iDA18.2⟩ ⟨iDB18.1, iDB18.2⟩ ⟨iEA18.1, iEA18.2⟩ ⟨iEB18.1, iEB18.2⟩ ⟨iTA18.1, iTA18.2⟩ ⟨iTB18.1, iTB18.2⟩ (by have o0 := iDR18; have o1 := iDA18.2; have o2 := iDB18.2; unfold q_r at o1 o2; omega) (by have o0 := iTR18; have o1 := iTA18.2; have o2 := iTB18.2; unfold q_r at o1 o2; omega) (by have o0 := iKR18; have o1 := iER18; have o2 := iEA18.2; have o3 := iEB18.2; have o4 := iKA18.2; have o5 := iKB18.2; unfold q_r at o2 o3 o4 o5; omega) iTC18 iRA18 iLW18 iNW18 iRE18 ⟨iV18.1, iV18.2⟩
      by_cases z33_19 : v32.toInt = 19
      · skip
        refine q_tsIn (pc := 33) 19 871 hG dL_law_33 z33_19 (by decide) rfl rfl ?_
        refine q_aload_n (pc := 871) hG dL_law_871 1 rfl ?_
        refine q_aload_n (pc := 872) hG dL_law_872 0 rfl ?_
        refine q_iload_n (pc := 873) hG dL_law_873 3 rfl ?_
        refine q_iconst (pc := 874) hG dL_law_874 ki_1 ?_
        refine q_iadd (pc := 875) hG dL_law_875 (fun v875 e875 => ?_)
        have r_94 := (q_addN (lo := 1) (hi := 3067) e875 r_3 rl_1 (by decide)).2
        refine q_sld (pc := 876) hG hXs hbl hbA (by have o0 := e20; have o1 := (q_subN (lo := (-6)) (hi := 3066) e23 g20 rl_6 (by decide)).1; have o2 := c24; have o3 := (q_addN (lo := 1) (hi := 3067) e875 r_3 rl_1 (by decide)).1; have o4 := r_3; have o5 := g20; have o6 := r_4; have o7 := r_94; have l8 := tl_1; have l9 := tl_6; unfold q_r at o4 o5 o6 o7; omega) dL_law_876 (fun v876 e876 => ?_)
        refine q_aload_n (pc := 877) hG dL_law_877 0 rfl ?_
        refine q_iload_n (pc := 878) hG dL_law_878 3 rfl ?_
        refine q_iconst (pc := 879) hG dL_law_879 ki_2 ?_
        refine q_iadd (pc := 880) hG dL_law_880 (fun v880 e880 => ?_)
        have r_95 := (q_addN (lo := 2) (hi := 3068) e880 r_3 rl_2 (by decide)).2
        refine q_sld (pc := 881) hG hXs hbl hbA (by have o0 := e20; have o1 := (q_subN (lo := (-6)) (hi := 3066) e23 g20 rl_6 (by decide)).1; have o2 := c24; have o3 := (q_addN (lo := 1) (hi := 3067) e875 r_3 rl_1 (by decide)).1; have o4 := (q_addN (lo := 2) (hi := 3068) e880 r_3 rl_2 (by decide)).1; have o5 := r_3; have o6 := g20; have o7 := r_4; have o8 := r_94; have o9 := r_95; have l10 := tl_1; have l11 := tl_2; have l12 := tl_6; unfold q_r at o5 o6 o7 o8 o9; omega) dL_law_881 (fun v881 e881 => ?_)
        refine q_cVi (pc := 882) [.int v876, .int v881] [] hG (c_X11_begins τ σ18 a1 v876 v881 hS18.1 tA1) my_X11_begins mv_X11_begins w601 dL_law_882 tA1 (by decide) rfl rfl (Nat.le_of_ble_eq_true rfl) (by decide) (fun v882 s882 p882 => ?_)
        have w882 := hS18.trans p882.1 rfl
        refine q_pop (pc := 885) hG dL_law_885 rfl ?_
        refine q_aload_n (pc := 886) hG dL_law_886 2 rfl ?_
        refine q_aload_n (pc := 887) hG dL_law_887 0 rfl ?_
        refine q_iload_n (pc := 888) hG dL_law_888 3 rfl ?_
        refine q_iconst (pc := 889) hG dL_law_889 ki_1 ?_
        refine q_iadd (pc := 890) hG dL_law_890 (fun v890 e890 => ?_)
        rw [e890.trans e875.symm]
        refine q_sld (pc := 891) hG hXs hbl hbA (by have o0 := e20; have o1 := (q_subN (lo := (-6)) (hi := 3066) e23 g20 rl_6 (by decide)).1; have o2 := c24; have o3 := (q_addN (lo := 1) (hi := 3067) e875 r_3 rl_1 (by decide)).1; have o4 := (q_addN (lo := 2) (hi := 3068) e880 r_3 rl_2 (by decide)).1; have o5 := r_3; have o6 := g20; have o7 := r_4; have o8 := r_94; have o9 := r_95; have l10 := tl_1; have l11 := tl_2; have l12 := tl_6; unfold q_r at o5 o6 o7 o8 o9; omega) dL_law_891 (fun v891 e891 => ?_)
        refine q_aload_n (pc := 892) hG dL_law_892 0 rfl ?_
        refine q_iload_n (pc := 893) hG dL_law_893 3 rfl ?_
        refine q_iconst (pc := 894) hG dL_law_894 ki_2 ?_
        refine q_iadd (pc := 895) hG dL_law_895 (fun v895 e895 => ?_)
        rw [e895.trans e880.symm]
        refine q_sld (pc := 896) hG hXs hbl hbA (by have o0 := e20; have o1 := (q_subN (lo := (-6)) (hi := 3066) e23 g20 rl_6 (by decide)).1; have o2 := c24; have o3 := (q_addN (lo := 1) (hi := 3067) e875 r_3 rl_1 (by decide)).1; have o4 := (q_addN (lo := 2) (hi := 3068) e880 r_3 rl_2 (by decide)).1; have o5 := r_3; have o6 := g20; have o7 := r_4; have o8 := r_94; have o9 := r_95; have l10 := tl_1; have l11 := tl_2; have l12 := tl_6; unfold q_r at o5 o6 o7 o8 o9; omega) dL_law_896 (fun v896 e896 => ?_)
        refine q_cVi (pc := 897) [.int v891, .int v896] [] hG (c_X12_begins τ s882 a2 v891 v896 w882.1 tA2 (q_wf.keep hS18.1 p882.1.2 tA2 rfl iV18.1)) my_X12_begins mv_X12_begins w1109 dL_law_897 tA2 (by decide) rfl rfl (Nat.le_of_ble_eq_true rfl) (by decide) (fun v897 s897 p897 => ?_)
        have w897 := w882.trans p897.1 rfl
        refine q_pop (pc := 900) hG dL_law_900 rfl ?_
        refine q_goto (pc := 901) 1447 hG dL_law_901 rfl ?_
        refine q_lv [0, 1, 2, 3] rfl ?_
        have ra_96 : zz_rs (fx_N s897) c0 c1 c2 bn := (zz_rs.C (zz_rs.C iRA18 p882.1 rfl Tc0 Tc1 Tc2 (fun j _ => p882.1.2.arr Tbn (by decide) rfl)) p897.1 rfl Tc0 Tc1 Tc2 (fun j _ => p897.1.2.arr Tbn (by decide) rfl))
        have lw_97 : zi_L a1 a2 (fx_N s897) := (zi_L.C w882.1 tA1 tA2 p897.1 rfl (zi_L.C hS18.1 tA1 tA2 p882.1 rfl iLW18))
        have nw_98 : zw_L τ a1 a2 (fx_N s897) := (zw_L.C tA1 tA2 p897.1 rfl (zw_L.C tA1 tA2 p882.1 rfl iNW18))
        exact J1447 s897 KA18 KB18 DA18 DB18 EA18 EB18 TA18 TB18 w897 ⟨(p897.1.same tA1 rfl (p882.1.same tA1 rfl iKA18.1)), iKA18.2⟩ ⟨(p897.1.same tA2 rfl (p882.1.same tA2 rfl iKB18.1)), iKB18.2⟩ (by have o0 := iKR18; have o1 := iER18; have o2 := iEA18.2; have o3 := iEB18.2; have o4 := iKA18.2; have o5 := iKB18.2; unfold q_r at o2 o3 o4 o5; omega) ⟨(p897.1.same Tbr rfl (p882.1.same Tbr rfl iDA18.1)), iDA18.2⟩ ⟨(p897.1.same Tbn rfl (p882.1.same Tbn rfl iDB18.1)), iDB18.2⟩ ⟨(p897.1.same Tbk rfl (p882.1.same Tbk rfl iEA18.1)), iEA18.2⟩ ⟨(p897.1.same Tbm rfl (p882.1.same Tbm rfl iEB18.1)), iEB18.2⟩ ⟨(p897.1.same tA1 rfl (p882.1.same tA1 rfl iTA18.1)), iTA18.2⟩ ⟨(p897.1.same tA2 rfl (p882.1.same tA2 rfl iTB18.1)), iTB18.2⟩ (by have o0 := iDR18; have o1 := iDA18.2; have o2 := iDB18.2; unfold q_r at o1 o2; omega) (by have o0 := iTR18; have o1 := iTA18.2; have o2 := iTB18.2; unfold q_r at o1 o2; omega) (by have o0 := iKR18; have o1 := iER18; have o2 := iEA18.2; have o3 := iEB18.2; have o4 := iKA18.2; have o5 := iKB18.2; unfold q_r at o2 o3 o4 o5; omega) (zz_tc.keep (zz_tc.keep iTC18 p882.1.2 Tta Ttb rfl rfl) p897.1.2 Tta Ttb rfl rfl) ra_96 lw_97 nw_98 (Or.imp id (fun z => zz_rs.C z p897.1 rfl Te0 Te1 Te2 (fun j _ => p897.1.2.arr Tbm (by decide) rfl)) (Or.imp id (fun z => zz_rs.C z p882.1 rfl Te0 Te1 Te2 (fun j _ => p882.1.2.arr Tbm (by decide) rfl)) iRE18)) ⟨(q_wf.keep w882.1 p897.1.2 tA2 rfl (q_wf.keep hS18.1 p882.1.2 tA2 rfl iV18.1)), (q_kp.keep w882.1 p897.1.2 tA2 rfl (q_kp.keep hS18.1 p882.1.2 tA2 rfl iV18.2))⟩
      by_cases z33_20 : v32.toInt = 20
      · skip
        refine q_tsIn (pc := 33) 20 904 hG dL_law_33 z33_20 (by decide) rfl rfl ?_
        refine q_aload_n (pc := 904) hG dL_law_904 1 rfl ?_
        refine q_aload_n (pc := 905) hG dL_law_905 0 rfl ?_
        refine q_iload_n (pc := 906) hG dL_law_906 3 rfl ?_
        refine q_iconst (pc := 907) hG dL_law_907 ki_1 ?_
        refine q_iadd (pc := 908) hG dL_law_908 (fun v908 e908 => ?_)
        have r_99 := (q_addN (lo := 1) (hi := 3067) e908 r_3 rl_1 (by decide)).2
        refine q_sld (pc := 909) hG hXs hbl hbA (by have o0 := e20; have o1 := (q_subN (lo := (-6)) (hi := 3066) e23 g20 rl_6 (by decide)).1; have o2 := c24; have o3 := (q_addN (lo := 1) (hi := 3067) e908 r_3 rl_1 (by decide)).1; have o4 := r_3; have o5 := g20; have o6 := r_4; have o7 := r_99; have l8 := tl_1; have l9 := tl_6; unfold q_r at o4 o5 o6 o7; omega) dL_law_909 (fun v909 e909 => ?_)
        refine q_cVi (pc := 910) [.int v909] [] hG (c_X11_latest τ σ18 a1 v909 hS18.1 tA1) my_X11_latest mv_X11_latest w618 dL_law_910 tA1 (by decide) rfl rfl (Nat.le_of_ble_eq_true rfl) (by decide) (fun v910 s910 p910 => ?_)
        have w910 := hS18.trans p910.1 rfl
        refine q_pop (pc := 913) hG dL_law_913 rfl ?_
        refine q_aload_n (pc := 914) hG dL_law_914 2 rfl ?_
        refine q_aload_n (pc := 915) hG dL_law_915 0 rfl ?_
        refine q_iload_n (pc := 916) hG dL_law_916 3 rfl ?_
        refine q_iconst (pc := 917) hG dL_law_917 ki_1 ?_
        refine q_iadd (pc := 918) hG dL_law_918 (fun v918 e918 => ?_)
        rw [e918.trans e908.symm]
        refine q_sld (pc := 919) hG hXs hbl hbA (by have o0 := e20; have o1 := (q_subN (lo := (-6)) (hi := 3066) e23 g20 rl_6 (by decide)).1; have o2 := c24; have o3 := (q_addN (lo := 1) (hi := 3067) e908 r_3 rl_1 (by decide)).1; have o4 := r_3; have o5 := g20; have o6 := r_4; have o7 := r_99; have l8 := tl_1; have l9 := tl_6; unfold q_r at o4 o5 o6 o7; omega) dL_law_919 (fun v919 e919 => ?_)
        refine q_cVi (pc := 920) [.int v919] [] hG (c_X12_latest τ s910 a2 v919 w910.1 tA2 (q_wf.keep hS18.1 p910.1.2 tA2 rfl iV18.1)) my_X12_latest mv_X12_latest w1128 dL_law_920 tA2 (by decide) rfl rfl (Nat.le_of_ble_eq_true rfl) (by decide) (fun v920 s920 p920 => ?_)
        have w920 := w910.trans p920.1 rfl
        refine q_pop (pc := 923) hG dL_law_923 rfl ?_
        refine q_goto (pc := 924) 1447 hG dL_law_924 rfl ?_
        refine q_lv [0, 1, 2, 3] rfl ?_
        have ra_100 : zz_rs (fx_N s920) c0 c1 c2 bn := (zz_rs.C (zz_rs.C iRA18 p910.1 rfl Tc0 Tc1 Tc2 (fun j _ => p910.1.2.arr Tbn (by decide) rfl)) p920.1 rfl Tc0 Tc1 Tc2 (fun j _ => p920.1.2.arr Tbn (by decide) rfl))
        have lw_101 : zi_L a1 a2 (fx_N s920) := (zi_L.C w910.1 tA1 tA2 p920.1 rfl (zi_L.C hS18.1 tA1 tA2 p910.1 rfl iLW18))
        have nw_102 : zw_L τ a1 a2 (fx_N s920) := (zw_L.C tA1 tA2 p920.1 rfl (zw_L.C tA1 tA2 p910.1 rfl iNW18))
        exact J1447 s920 KA18 KB18 DA18 DB18 EA18 EB18 TA18 TB18 w920 ⟨(p920.1.same tA1 rfl (p910.1.same tA1 rfl iKA18.1)), iKA18.2⟩ ⟨(p920.1.same tA2 rfl (p910.1.same tA2 rfl iKB18.1)), iKB18.2⟩ (by have o0 := iKR18; have o1 := iER18; have o2 := iEA18.2; have o3 := iEB18.2; have o4 := iKA18.2; have o5 := iKB18.2; unfold q_r at o2 o3 o4 o5; omega) ⟨(p920.1.same Tbr rfl (p910.1.same Tbr rfl iDA18.1)), iDA18.2⟩ ⟨(p920.1.same Tbn rfl (p910.1.same Tbn rfl iDB18.1)), iDB18.2⟩ ⟨(p920.1.same Tbk rfl (p910.1.same Tbk rfl iEA18.1)), iEA18.2⟩ ⟨(p920.1.same Tbm rfl (p910.1.same Tbm rfl iEB18.1)), iEB18.2⟩ ⟨(p920.1.same tA1 rfl (p910.1.same tA1 rfl iTA18.1)), iTA18.2⟩ ⟨(p920.1.same tA2 rfl (p910.1.same tA2 rfl iTB18.1)), iTB18.2⟩ (by have o0 := iDR18; have o1 := iDA18.2; have o2 := iDB18.2; unfold q_r at o1 o2; omega) (by have o0 := iTR18; have o1 := iTA18.2; have o2 := iTB18.2; unfold q_r at o1 o2; omega) (by have o0 := iKR18; have o1 := iER18; have o2 := iEA18.2; have o3 := iEB18.2; have o4 := iKA18.2; have o5 := iKB18.2; unfold q_r at o2 o3 o4 o5; omega) (zz_tc.keep (zz_tc.keep iTC18 p910.1.2 Tta Ttb rfl rfl) p920.1.2 Tta Ttb rfl rfl) ra_100 lw_101 nw_102 (Or.imp id (fun z => zz_rs.C z p920.1 rfl Te0 Te1 Te2 (fun j _ => p920.1.2.arr Tbm (by decide) rfl)) (Or.imp id (fun z => zz_rs.C z p910.1 rfl Te0 Te1 Te2 (fun j _ => p910.1.2.arr Tbm (by decide) rfl)) iRE18)) ⟨(q_wf.keep w910.1 p920.1.2 tA2 rfl (q_wf.keep hS18.1 p910.1.2 tA2 rfl iV18.1)), (q_kp.keep w910.1 p920.1.2 tA2 rfl (q_kp.keep hS18.1 p910.1.2 tA2 rfl iV18.2))⟩
      by_cases z33_21 : v32.toInt = 21
      · skip
        refine q_tsIn (pc := 33) 21 927 hG dL_law_33 z33_21 (by decide) rfl rfl ?_
        refine q_aload_n (pc := 927) hG dL_law_927 1 rfl ?_
        refine q_aload_n (pc := 928) hG dL_law_928 0 rfl ?_
        refine q_iload_n (pc := 929) hG dL_law_929 3 rfl ?_
        refine q_iconst (pc := 930) hG dL_law_930 ki_1 ?_
        refine q_iadd (pc := 931) hG dL_law_931 (fun v931 e931 => ?_)
        have r_103 := (q_addN (lo := 1) (hi := 3067) e931 r_3 rl_1 (by decide)).2
        refine q_sld (pc := 932) hG hXs hbl hbA (by have o0 := e20; have o1 := (q_subN (lo := (-6)) (hi := 3066) e23 g20 rl_6 (by decide)).1; have o2 := c24; have o3 := (q_addN (lo := 1) (hi := 3067) e931 r_3 rl_1 (by decide)).1; have o4 := r_3; have o5 := g20; have o6 := r_4; have o7 := r_103; have l8 := tl_1; have l9 := tl_6; unfold q_r at o4 o5 o6 o7; omega) dL_law_932 (fun v932 e932 => ?_)
        refine q_aload_n (pc := 933) hG dL_law_933 0 rfl ?_
        refine q_iload_n (pc := 934) hG dL_law_934 3 rfl ?_
        refine q_iconst (pc := 935) hG dL_law_935 ki_2 ?_
        refine q_iadd (pc := 936) hG dL_law_936 (fun v936 e936 => ?_)
        have r_104 := (q_addN (lo := 2) (hi := 3068) e936 r_3 rl_2 (by decide)).2
        refine q_sld (pc := 937) hG hXs hbl hbA (by have o0 := e20; have o1 := (q_subN (lo := (-6)) (hi := 3066) e23 g20 rl_6 (by decide)).1; have o2 := c24; have o3 := (q_addN (lo := 1) (hi := 3067) e931 r_3 rl_1 (by decide)).1; have o4 := (q_addN (lo := 2) (hi := 3068) e936 r_3 rl_2 (by decide)).1; have o5 := r_3; have o6 := g20; have o7 := r_4; have o8 := r_103; have o9 := r_104; have l10 := tl_1; have l11 := tl_2; have l12 := tl_6; unfold q_r at o5 o6 o7 o8 o9; omega) dL_law_937 (fun v937 e937 => ?_)
        refine q_aload_n (pc := 938) hG dL_law_938 0 rfl ?_
        refine q_iload_n (pc := 939) hG dL_law_939 3 rfl ?_
        refine q_iconst (pc := 940) hG dL_law_940 ki_3 ?_
        refine q_iadd (pc := 941) hG dL_law_941 (fun v941 e941 => ?_)
        have r_105 := (q_addN (lo := 3) (hi := 3069) e941 r_3 rl_3 (by decide)).2
        refine q_sld (pc := 942) hG hXs hbl hbA (by have o0 := e20; have o1 := (q_subN (lo := (-6)) (hi := 3066) e23 g20 rl_6 (by decide)).1; have o2 := c24; have o3 := (q_addN (lo := 1) (hi := 3067) e931 r_3 rl_1 (by decide)).1; have o4 := (q_addN (lo := 2) (hi := 3068) e936 r_3 rl_2 (by decide)).1; have o5 := (q_addN (lo := 3) (hi := 3069) e941 r_3 rl_3 (by decide)).1; have o6 := r_3; have o7 := g20; have o8 := r_4; have o9 := r_103; have o10 := r_104; have o11 := r_105; have l12 := tl_1; have l13 := tl_2; have l14 := tl_3; have l15 := tl_6; unfold q_r at o6 o7 o8 o9 o10 o11; omega) dL_law_942 (fun v942 e942 => ?_)
        refine q_aload_n (pc := 943) hG dL_law_943 0 rfl ?_
        refine q_iload_n (pc := 944) hG dL_law_944 3 rfl ?_
        refine q_iconst (pc := 945) hG dL_law_945 ki_4 ?_
        refine q_iadd (pc := 946) hG dL_law_946 (fun v946 e946 => ?_)
        have r_106 := (q_addN (lo := 4) (hi := 3070) e946 r_3 rl_4 (by decide)).2
        refine q_sld (pc := 947) hG hXs hbl hbA (by have o0 := e20; have o1 := (q_subN (lo := (-6)) (hi := 3066) e23 g20 rl_6 (by decide)).1; have o2 := c24; have o3 := (q_addN (lo := 1) (hi := 3067) e931 r_3 rl_1 (by decide)).1; have o4 := (q_addN (lo := 2) (hi := 3068) e936 r_3 rl_2 (by decide)).1; have o5 := (q_addN (lo := 3) (hi := 3069) e941 r_3 rl_3 (by decide)).1; have o6 := (q_addN (lo := 4) (hi := 3070) e946 r_3 rl_4 (by decide)).1; have o7 := r_3; have o8 := g20; have o9 := r_4; have o10 := r_103; have o11 := r_104; have o12 := r_105; have o13 := r_106; have l14 := tl_1; have l15 := tl_2; have l16 := tl_3; have l17 := tl_4; have l18 := tl_6; unfold q_r at o7 o8 o9 o10 o11 o12 o13; omega) dL_law_947 (fun v947 e947 => ?_)
        refine q_cVi (pc := 948) [.int v932, .int v937, .int v942, .int v947] [] hG (c_X11_dewOdds τ σ18 a1 v932 v937 v942 v947 hS18.1 tA1) my_X11_dewOdds mv_X11_dewOdds w622 dL_law_948 tA1 (by decide) rfl rfl (Nat.le_of_ble_eq_true rfl) (by decide) (fun v948 s948 p948 => ?_)
        have w948 := hS18.trans p948.1 rfl
        obtain ⟨z948, fz948, gz948⟩ := (p948.2.2 TA18 iTA18.1)
        have rz948 : q_r z948 0 260 := zz_rng (w948.1 a1 9 1 tA1 1 (by decide)) ff_9_1 fz948
        refine q_pop (pc := 951) hG dL_law_951 rfl ?_
        refine q_aload_n (pc := 952) hG dL_law_952 2 rfl ?_
        refine q_aload_n (pc := 953) hG dL_law_953 0 rfl ?_
        refine q_iload_n (pc := 954) hG dL_law_954 3 rfl ?_
        refine q_iconst (pc := 955) hG dL_law_955 ki_1 ?_
        refine q_iadd (pc := 956) hG dL_law_956 (fun v956 e956 => ?_)
        rw [e956.trans e931.symm]
        refine q_sld (pc := 957) hG hXs hbl hbA (by have o0 := e20; have o1 := (q_subN (lo := (-6)) (hi := 3066) e23 g20 rl_6 (by decide)).1; have o2 := c24; have o3 := (q_addN (lo := 1) (hi := 3067) e931 r_3 rl_1 (by decide)).1; have o4 := (q_addN (lo := 2) (hi := 3068) e936 r_3 rl_2 (by decide)).1; have o5 := (q_addN (lo := 3) (hi := 3069) e941 r_3 rl_3 (by decide)).1; have o6 := (q_addN (lo := 4) (hi := 3070) e946 r_3 rl_4 (by decide)).1; have o7 := r_3; have o8 := g20; have o9 := r_4; have o10 := r_103; have o11 := r_104; have o12 := r_105; have o13 := r_106; have l14 := tl_1; have l15 := tl_2; have l16 := tl_3; have l17 := tl_4; have l18 := tl_6; unfold q_r at o7 o8 o9 o10 o11 o12 o13; omega) dL_law_957 (fun v957 e957 => ?_)
        refine q_aload_n (pc := 958) hG dL_law_958 0 rfl ?_
        refine q_iload_n (pc := 959) hG dL_law_959 3 rfl ?_
        refine q_iconst (pc := 960) hG dL_law_960 ki_2 ?_
        refine q_iadd (pc := 961) hG dL_law_961 (fun v961 e961 => ?_)
        rw [e961.trans e936.symm]
        refine q_sld (pc := 962) hG hXs hbl hbA (by have o0 := e20; have o1 := (q_subN (lo := (-6)) (hi := 3066) e23 g20 rl_6 (by decide)).1; have o2 := c24; have o3 := (q_addN (lo := 1) (hi := 3067) e931 r_3 rl_1 (by decide)).1; have o4 := (q_addN (lo := 2) (hi := 3068) e936 r_3 rl_2 (by decide)).1; have o5 := (q_addN (lo := 3) (hi := 3069) e941 r_3 rl_3 (by decide)).1; have o6 := (q_addN (lo := 4) (hi := 3070) e946 r_3 rl_4 (by decide)).1; have o7 := r_3; have o8 := g20; have o9 := r_4; have o10 := r_103; have o11 := r_104; have o12 := r_105; have o13 := r_106; have l14 := tl_1; have l15 := tl_2; have l16 := tl_3; have l17 := tl_4; have l18 := tl_6; unfold q_r at o7 o8 o9 o10 o11 o12 o13; omega) dL_law_962 (fun v962 e962 => ?_)
        refine q_aload_n (pc := 963) hG dL_law_963 0 rfl ?_
        refine q_iload_n (pc := 964) hG dL_law_964 3 rfl ?_
        refine q_iconst (pc := 965) hG dL_law_965 ki_3 ?_
        refine q_iadd (pc := 966) hG dL_law_966 (fun v966 e966 => ?_)
        rw [e966.trans e941.symm]
        refine q_sld (pc := 967) hG hXs hbl hbA (by have o0 := e20; have o1 := (q_subN (lo := (-6)) (hi := 3066) e23 g20 rl_6 (by decide)).1; have o2 := c24; have o3 := (q_addN (lo := 1) (hi := 3067) e931 r_3 rl_1 (by decide)).1; have o4 := (q_addN (lo := 2) (hi := 3068) e936 r_3 rl_2 (by decide)).1; have o5 := (q_addN (lo := 3) (hi := 3069) e941 r_3 rl_3 (by decide)).1; have o6 := (q_addN (lo := 4) (hi := 3070) e946 r_3 rl_4 (by decide)).1; have o7 := r_3; have o8 := g20; have o9 := r_4; have o10 := r_103; have o11 := r_104; have o12 := r_105; have o13 := r_106; have l14 := tl_1; have l15 := tl_2; have l16 := tl_3; have l17 := tl_4; have l18 := tl_6; unfold q_r at o7 o8 o9 o10 o11 o12 o13; omega) dL_law_967 (fun v967 e967 => ?_)
        refine q_aload_n (pc := 968) hG dL_law_968 0 rfl ?_
        refine q_iload_n (pc := 969) hG dL_law_969 3 rfl ?_
        refine q_iconst (pc := 970) hG dL_law_970 ki_4 ?_
        refine q_iadd (pc := 971) hG dL_law_971 (fun v971 e971 => ?_)
        rw [e971.trans e946.symm]
        refine q_sld (pc := 972) hG hXs hbl hbA (by have o0 := e20; have o1 := (q_subN (lo := (-6)) (hi := 3066) e23 g20 rl_6 (by decide)).1; have o2 := c24; have o3 := (q_addN (lo := 1) (hi := 3067) e931 r_3 rl_1 (by decide)).1; have o4 := (q_addN (lo := 2) (hi := 3068) e936 r_3 rl_2 (by decide)).1; have o5 := (q_addN (lo := 3) (hi := 3069) e941 r_3 rl_3 (by decide)).1; have o6 := (q_addN (lo := 4) (hi := 3070) e946 r_3 rl_4 (by decide)).1; have o7 := r_3; have o8 := g20; have o9 := r_4; have o10 := r_103; have o11 := r_104; have o12 := r_105; have o13 := r_106; have l14 := tl_1; have l15 := tl_2; have l16 := tl_3; have l17 := tl_4; have l18 := tl_6; unfold q_r at o7 o8 o9 o10 o11 o12 o13; omega) dL_law_972 (fun v972 e972 => ?_)
        refine q_cVi (pc := 973) [.int v957, .int v962, .int v967, .int v972] [] hG (c_X12_dewOdds τ s948 a2 v957 v962 v967 v972 w948.1 tA2 (q_wf.keep hS18.1 p948.1.2 tA2 rfl iV18.1)) my_X12_dewOdds mv_X12_dewOdds w1135 dL_law_973 tA2 (by decide) rfl rfl (Nat.le_of_ble_eq_true rfl) (by decide) (fun v973 s973 p973 => ?_)
        have w973 := w948.trans p973.1 rfl
        obtain ⟨z973, fz973, gz973⟩ := (p973.2.2 TB18 (p948.1.same tA2 rfl iTB18.1))
        have rz973 : q_r z973 0 260 := zz_rng (w973.1 a2 10 1 tA2 4 (by decide)) ff_10_4 fz973
        refine q_pop (pc := 976) hG dL_law_976 rfl ?_
        refine q_goto (pc := 977) 1447 hG dL_law_977 rfl ?_
        refine q_lv [0, 1, 2, 3] rfl ?_
        have ra_107 : zz_rs (fx_N s973) c0 c1 c2 bn := (zz_rs.C (zz_rs.C iRA18 p948.1 rfl Tc0 Tc1 Tc2 (fun j _ => p948.1.2.arr Tbn (by decide) rfl)) p973.1 rfl Tc0 Tc1 Tc2 (fun j _ => p973.1.2.arr Tbn (by decide) rfl))
        have lw_108 : zi_L a1 a2 (fx_N s973) := (zi_L.C w948.1 tA1 tA2 p973.1 rfl (zi_L.C hS18.1 tA1 tA2 p948.1 rfl iLW18))
        have nw_109 : zw_L τ a1 a2 (fx_N s973) := (zw_L.C tA1 tA2 p973.1 rfl (zw_L.C tA1 tA2 p948.1 rfl iNW18))
        exact J1447 s973 KA18 KB18 DA18 DB18 EA18 EB18 z948 z973 w973 ⟨(p973.1.same tA1 rfl (p948.1.same tA1 rfl iKA18.1)), iKA18.2⟩ ⟨(p973.1.same tA2 rfl (p948.1.same tA2 rfl iKB18.1)), iKB18.2⟩ (by have o0 := iKR18; have o1 := iER18; have o2 := iEA18.2; have o3 := iEB18.2; have o4 := iKA18.2; have o5 := iKB18.2; unfold q_r at o2 o3 o4 o5; omega) ⟨(p973.1.same Tbr rfl (p948.1.same Tbr rfl iDA18.1)), iDA18.2⟩ ⟨(p973.1.same Tbn rfl (p948.1.same Tbn rfl iDB18.1)), iDB18.2⟩ ⟨(p973.1.same Tbk rfl (p948.1.same Tbk rfl iEA18.1)), iEA18.2⟩ ⟨(p973.1.same Tbm rfl (p948.1.same Tbm rfl iEB18.1)), iEB18.2⟩ ⟨(p973.1.same tA1 rfl fz948), rz948⟩ ⟨fz973, rz973⟩ (by have o0 := iDR18; have o1 := iDA18.2; have o2 := iDB18.2; unfold q_r at o1 o2; omega) (by have o0 := gz948; have o1 := (congrArg Int32.toInt (e957.trans e932.symm)); have o2 := (congrArg Int32.toInt (e962.trans e937.symm)); have o3 := (congrArg Int32.toInt (e967.trans e942.symm)); have o4 := (congrArg Int32.toInt (e972.trans e947.symm)); have o5 := gz973; have o6 := iTR18; have o7 := iTA18.2; have o8 := iTB18.2; have o9 := p948.2.1; have o10 := p973.2.1; have o11 := rz948; have o12 := rz973; unfold q_r at o7 o8 o9 o10 o11 o12; omega) (by have o0 := iKR18; have o1 := iER18; have o2 := iEA18.2; have o3 := iEB18.2; have o4 := iKA18.2; have o5 := iKB18.2; unfold q_r at o2 o3 o4 o5; omega) (zz_tc.less (zz_tc.keep (zz_tc.keep iTC18 p948.1.2 Tta Ttb rfl rfl) p973.1.2 Tta Ttb rfl rfl) (by have o0 := iTR18; have o1 := gz948; have o2 := (congrArg Int32.toInt (e957.trans e932.symm)); have o3 := (congrArg Int32.toInt (e962.trans e937.symm)); have o4 := (congrArg Int32.toInt (e967.trans e942.symm)); have o5 := (congrArg Int32.toInt (e972.trans e947.symm)); have o6 := gz973; have o7 := iTA18.2; have o8 := iTB18.2; have o9 := p948.2.1; have o10 := p973.2.1; have o11 := rz948; have o12 := rz973; unfold q_r at o7 o8 o9 o10 o11 o12; omega)) ra_107 lw_108 nw_109 (Or.imp id (fun z => zz_rs.C z p973.1 rfl Te0 Te1 Te2 (fun j _ => p973.1.2.arr Tbm (by decide) rfl)) (Or.imp id (fun z => zz_rs.C z p948.1 rfl Te0 Te1 Te2 (fun j _ => p948.1.2.arr Tbm (by decide) rfl)) iRE18)) ⟨(q_wf.keep w948.1 p973.1.2 tA2 rfl (q_wf.keep hS18.1 p948.1.2 tA2 rfl iV18.1)), (q_kp.keep w948.1 p973.1.2 tA2 rfl (q_kp.keep hS18.1 p948.1.2 tA2 rfl iV18.2))⟩
      by_cases z33_22 : v32.toInt = 22
      · skip
        refine q_tsIn (pc := 33) 22 980 hG dL_law_33 z33_22 (by decide) rfl rfl ?_
        refine q_aload_n (pc := 980) hG dL_law_980 1 rfl ?_
        refine q_aload_n (pc := 981) hG dL_law_981 0 rfl ?_
        refine q_iload_n (pc := 982) hG dL_law_982 3 rfl ?_
        refine q_iconst (pc := 983) hG dL_law_983 ki_1 ?_
        refine q_iadd (pc := 984) hG dL_law_984 (fun v984 e984 => ?_)
        have r_110 := (q_addN (lo := 1) (hi := 3067) e984 r_3 rl_1 (by decide)).2
        refine q_sld (pc := 985) hG hXs hbl hbA (by have o0 := e20; have o1 := (q_subN (lo := (-6)) (hi := 3066) e23 g20 rl_6 (by decide)).1; have o2 := c24; have o3 := (q_addN (lo := 1) (hi := 3067) e984 r_3 rl_1 (by decide)).1; have o4 := r_3; have o5 := g20; have o6 := r_4; have o7 := r_110; have l8 := tl_1; have l9 := tl_6; unfold q_r at o4 o5 o6 o7; omega) dL_law_985 (fun v985 e985 => ?_)
        refine q_aload_n (pc := 986) hG dL_law_986 0 rfl ?_
        refine q_iload_n (pc := 987) hG dL_law_987 3 rfl ?_
        refine q_iconst (pc := 988) hG dL_law_988 ki_2 ?_
        refine q_iadd (pc := 989) hG dL_law_989 (fun v989 e989 => ?_)
        have r_111 := (q_addN (lo := 2) (hi := 3068) e989 r_3 rl_2 (by decide)).2
        refine q_sld (pc := 990) hG hXs hbl hbA (by have o0 := e20; have o1 := (q_subN (lo := (-6)) (hi := 3066) e23 g20 rl_6 (by decide)).1; have o2 := c24; have o3 := (q_addN (lo := 1) (hi := 3067) e984 r_3 rl_1 (by decide)).1; have o4 := (q_addN (lo := 2) (hi := 3068) e989 r_3 rl_2 (by decide)).1; have o5 := r_3; have o6 := g20; have o7 := r_4; have o8 := r_110; have o9 := r_111; have l10 := tl_1; have l11 := tl_2; have l12 := tl_6; unfold q_r at o5 o6 o7 o8 o9; omega) dL_law_990 (fun v990 e990 => ?_)
        refine q_aload_n (pc := 991) hG dL_law_991 0 rfl ?_
        refine q_iload_n (pc := 992) hG dL_law_992 3 rfl ?_
        refine q_iconst (pc := 993) hG dL_law_993 ki_3 ?_
        refine q_iadd (pc := 994) hG dL_law_994 (fun v994 e994 => ?_)
        have r_112 := (q_addN (lo := 3) (hi := 3069) e994 r_3 rl_3 (by decide)).2
        refine q_sld (pc := 995) hG hXs hbl hbA (by have o0 := e20; have o1 := (q_subN (lo := (-6)) (hi := 3066) e23 g20 rl_6 (by decide)).1; have o2 := c24; have o3 := (q_addN (lo := 1) (hi := 3067) e984 r_3 rl_1 (by decide)).1; have o4 := (q_addN (lo := 2) (hi := 3068) e989 r_3 rl_2 (by decide)).1; have o5 := (q_addN (lo := 3) (hi := 3069) e994 r_3 rl_3 (by decide)).1; have o6 := r_3; have o7 := g20; have o8 := r_4; have o9 := r_110; have o10 := r_111; have o11 := r_112; have l12 := tl_1; have l13 := tl_2; have l14 := tl_3; have l15 := tl_6; unfold q_r at o6 o7 o8 o9 o10 o11; omega) dL_law_995 (fun v995 e995 => ?_)
        refine q_cVi (pc := 996) [.int v985, .int v990, .int v995] [] hG (c_X11_meet τ σ18 a1 v985 v990 v995 hS18.1 tA1) my_X11_meet mv_X11_meet w629 dL_law_996 tA1 (by decide) rfl rfl (Nat.le_of_ble_eq_true rfl) (by decide) (fun v996 s996 p996 => ?_)
        have w996 := hS18.trans p996.1 rfl
        refine q_pop (pc := 999) hG dL_law_999 rfl ?_
        refine q_aload_n (pc := 1000) hG dL_law_1000 2 rfl ?_
        refine q_aload_n (pc := 1001) hG dL_law_1001 0 rfl ?_
        refine q_iload_n (pc := 1002) hG dL_law_1002 3 rfl ?_
        refine q_iconst (pc := 1003) hG dL_law_1003 ki_1 ?_
        refine q_iadd (pc := 1004) hG dL_law_1004 (fun v1004 e1004 => ?_)
        rw [e1004.trans e984.symm]
        refine q_sld (pc := 1005) hG hXs hbl hbA (by have o0 := e20; have o1 := (q_subN (lo := (-6)) (hi := 3066) e23 g20 rl_6 (by decide)).1; have o2 := c24; have o3 := (q_addN (lo := 1) (hi := 3067) e984 r_3 rl_1 (by decide)).1; have o4 := (q_addN (lo := 2) (hi := 3068) e989 r_3 rl_2 (by decide)).1; have o5 := (q_addN (lo := 3) (hi := 3069) e994 r_3 rl_3 (by decide)).1; have o6 := r_3; have o7 := g20; have o8 := r_4; have o9 := r_110; have o10 := r_111; have o11 := r_112; have l12 := tl_1; have l13 := tl_2; have l14 := tl_3; have l15 := tl_6; unfold q_r at o6 o7 o8 o9 o10 o11; omega) dL_law_1005 (fun v1005 e1005 => ?_)
        refine q_aload_n (pc := 1006) hG dL_law_1006 0 rfl ?_
        refine q_iload_n (pc := 1007) hG dL_law_1007 3 rfl ?_
        refine q_iconst (pc := 1008) hG dL_law_1008 ki_2 ?_
        refine q_iadd (pc := 1009) hG dL_law_1009 (fun v1009 e1009 => ?_)
        rw [e1009.trans e989.symm]
        refine q_sld (pc := 1010) hG hXs hbl hbA (by have o0 := e20; have o1 := (q_subN (lo := (-6)) (hi := 3066) e23 g20 rl_6 (by decide)).1; have o2 := c24; have o3 := (q_addN (lo := 1) (hi := 3067) e984 r_3 rl_1 (by decide)).1; have o4 := (q_addN (lo := 2) (hi := 3068) e989 r_3 rl_2 (by decide)).1; have o5 := (q_addN (lo := 3) (hi := 3069) e994 r_3 rl_3 (by decide)).1; have o6 := r_3; have o7 := g20; have o8 := r_4; have o9 := r_110; have o10 := r_111; have o11 := r_112; have l12 := tl_1; have l13 := tl_2; have l14 := tl_3; have l15 := tl_6; unfold q_r at o6 o7 o8 o9 o10 o11; omega) dL_law_1010 (fun v1010 e1010 => ?_)
        refine q_aload_n (pc := 1011) hG dL_law_1011 0 rfl ?_
        refine q_iload_n (pc := 1012) hG dL_law_1012 3 rfl ?_
        refine q_iconst (pc := 1013) hG dL_law_1013 ki_3 ?_
        refine q_iadd (pc := 1014) hG dL_law_1014 (fun v1014 e1014 => ?_)
        rw [e1014.trans e994.symm]
        refine q_sld (pc := 1015) hG hXs hbl hbA (by have o0 := e20; have o1 := (q_subN (lo := (-6)) (hi := 3066) e23 g20 rl_6 (by decide)).1; have o2 := c24; have o3 := (q_addN (lo := 1) (hi := 3067) e984 r_3 rl_1 (by decide)).1; have o4 := (q_addN (lo := 2) (hi := 3068) e989 r_3 rl_2 (by decide)).1; have o5 := (q_addN (lo := 3) (hi := 3069) e994 r_3 rl_3 (by decide)).1; have o6 := r_3; have o7 := g20; have o8 := r_4; have o9 := r_110; have o10 := r_111; have o11 := r_112; have l12 := tl_1; have l13 := tl_2; have l14 := tl_3; have l15 := tl_6; unfold q_r at o6 o7 o8 o9 o10 o11; omega) dL_law_1015 (fun v1015 e1015 => ?_)
        refine q_cVi (pc := 1016) [.int v1005, .int v1010, .int v1015] [] hG (c_X12_meet τ s996 a2 v1005 v1010 v1015 w996.1 tA2 (q_wf.keep hS18.1 p996.1.2 tA2 rfl iV18.1)) my_X12_meet mv_X12_meet w1142 dL_law_1016 tA2 (by decide) rfl rfl (Nat.le_of_ble_eq_true rfl) (by decide) (fun v1016 s1016 p1016 => ?_)
        have w1016 := w996.trans p1016.1 rfl
        refine q_pop (pc := 1019) hG dL_law_1019 rfl ?_
        refine q_goto (pc := 1020) 1447 hG dL_law_1020 rfl ?_
        refine q_lv [0, 1, 2, 3] rfl ?_
        have ra_113 : zz_rs (fx_N s1016) c0 c1 c2 bn := (zz_rs.C (zz_rs.C iRA18 p996.1 rfl Tc0 Tc1 Tc2 (fun j _ => p996.1.2.arr Tbn (by decide) rfl)) p1016.1 rfl Tc0 Tc1 Tc2 (fun j _ => p1016.1.2.arr Tbn (by decide) rfl))
        have lw_114 : zi_L a1 a2 (fx_N s1016) := (zi_L.C w996.1 tA1 tA2 p1016.1 rfl (zi_L.C hS18.1 tA1 tA2 p996.1 rfl iLW18))
        have nw_115 : zw_L τ a1 a2 (fx_N s1016) := (zw_L.C tA1 tA2 p1016.1 rfl (zw_L.C tA1 tA2 p996.1 rfl iNW18))
        exact J1447 s1016 KA18 KB18 DA18 DB18 EA18 EB18 TA18 TB18 w1016 ⟨(p1016.1.same tA1 rfl (p996.1.same tA1 rfl iKA18.1)), iKA18.2⟩ ⟨(p1016.1.same tA2 rfl (p996.1.same tA2 rfl iKB18.1)), iKB18.2⟩ (by have o0 := iKR18; have o1 := iER18; have o2 := iEA18.2; have o3 := iEB18.2; have o4 := iKA18.2; have o5 := iKB18.2; unfold q_r at o2 o3 o4 o5; omega) ⟨(p1016.1.same Tbr rfl (p996.1.same Tbr rfl iDA18.1)), iDA18.2⟩ ⟨(p1016.1.same Tbn rfl (p996.1.same Tbn rfl iDB18.1)), iDB18.2⟩ ⟨(p1016.1.same Tbk rfl (p996.1.same Tbk rfl iEA18.1)), iEA18.2⟩ ⟨(p1016.1.same Tbm rfl (p996.1.same Tbm rfl iEB18.1)), iEB18.2⟩ ⟨(p1016.1.same tA1 rfl (p996.1.same tA1 rfl iTA18.1)), iTA18.2⟩ ⟨(p1016.1.same tA2 rfl (p996.1.same tA2 rfl iTB18.1)), iTB18.2⟩ (by have o0 := iDR18; have o1 := iDA18.2; have o2 := iDB18.2; unfold q_r at o1 o2; omega) (by have o0 := iTR18; have o1 := iTA18.2; have o2 := iTB18.2; unfold q_r at o1 o2; omega) (by have o0 := iKR18; have o1 := iER18; have o2 := iEA18.2; have o3 := iEB18.2; have o4 := iKA18.2; have o5 := iKB18.2; unfold q_r at o2 o3 o4 o5; omega) (zz_tc.keep (zz_tc.keep iTC18 p996.1.2 Tta Ttb rfl rfl) p1016.1.2 Tta Ttb rfl rfl) ra_113 lw_114 nw_115 (Or.imp id (fun z => zz_rs.C z p1016.1 rfl Te0 Te1 Te2 (fun j _ => p1016.1.2.arr Tbm (by decide) rfl)) (Or.imp id (fun z => zz_rs.C z p996.1 rfl Te0 Te1 Te2 (fun j _ => p996.1.2.arr Tbm (by decide) rfl)) iRE18)) ⟨(q_wf.keep w996.1 p1016.1.2 tA2 rfl (q_wf.keep hS18.1 p996.1.2 tA2 rfl iV18.1)), (q_kp.keep w996.1 p1016.1.2 tA2 rfl (q_kp.keep hS18.1 p996.1.2 tA2 rfl iV18.2))⟩
      by_cases z33_23 : v32.toInt = 23
      · skip
        refine q_tsIn (pc := 33) 23 1023 hG dL_law_33 z33_23 (by decide) rfl rfl ?_
        refine q_aload_n (pc := 1023) hG dL_law_1023 1 rfl ?_
        refine q_aload_n (pc := 1024) hG dL_law_1024 0 rfl ?_
        refine q_iload_n (pc := 1025) hG dL_law_1025 3 rfl ?_
        refine q_iconst (pc := 1026) hG dL_law_1026 ki_1 ?_
        refine q_iadd (pc := 1027) hG dL_law_1027 (fun v1027 e1027 => ?_)
        have r_116 := (q_addN (lo := 1) (hi := 3067) e1027 r_3 rl_1 (by decide)).2
        refine q_sld (pc := 1028) hG hXs hbl hbA (by have o0 := e20; have o1 := (q_subN (lo := (-6)) (hi := 3066) e23 g20 rl_6 (by decide)).1; have o2 := c24; have o3 := (q_addN (lo := 1) (hi := 3067) e1027 r_3 rl_1 (by decide)).1; have o4 := r_3; have o5 := r_116; have o6 := g20; have o7 := r_4; have l8 := tl_1; have l9 := tl_6; unfold q_r at o4 o5 o6 o7; omega) dL_law_1028 (fun v1028 e1028 => ?_)
        refine q_aload_n (pc := 1029) hG dL_law_1029 0 rfl ?_
        refine q_iload_n (pc := 1030) hG dL_law_1030 3 rfl ?_
        refine q_iconst (pc := 1031) hG dL_law_1031 ki_2 ?_
        refine q_iadd (pc := 1032) hG dL_law_1032 (fun v1032 e1032 => ?_)
        have r_117 := (q_addN (lo := 2) (hi := 3068) e1032 r_3 rl_2 (by decide)).2
        refine q_sld (pc := 1033) hG hXs hbl hbA (by have o0 := e20; have o1 := (q_subN (lo := (-6)) (hi := 3066) e23 g20 rl_6 (by decide)).1; have o2 := c24; have o3 := (q_addN (lo := 1) (hi := 3067) e1027 r_3 rl_1 (by decide)).1; have o4 := (q_addN (lo := 2) (hi := 3068) e1032 r_3 rl_2 (by decide)).1; have o5 := r_3; have o6 := r_116; have o7 := r_117; have o8 := g20; have o9 := r_4; have l10 := tl_1; have l11 := tl_2; have l12 := tl_6; unfold q_r at o5 o6 o7 o8 o9; omega) dL_law_1033 (fun v1033 e1033 => ?_)
        refine q_cVi (pc := 1034) [.int v1028, .int v1033] [] hG (c_X11_pinned τ σ18 a1 v1028 v1033 hS18.1 tA1) my_X11_pinned mv_X11_pinned w634 dL_law_1034 tA1 (by decide) rfl rfl (Nat.le_of_ble_eq_true rfl) (by decide) (fun v1034 s1034 p1034 => ?_)
        have w1034 := hS18.trans p1034.1 rfl
        refine q_pop (pc := 1037) hG dL_law_1037 rfl ?_
        refine q_aload_n (pc := 1038) hG dL_law_1038 2 rfl ?_
        refine q_aload_n (pc := 1039) hG dL_law_1039 0 rfl ?_
        refine q_iload_n (pc := 1040) hG dL_law_1040 3 rfl ?_
        refine q_iconst (pc := 1041) hG dL_law_1041 ki_1 ?_
        refine q_iadd (pc := 1042) hG dL_law_1042 (fun v1042 e1042 => ?_)
        rw [e1042.trans e1027.symm]
        refine q_sld (pc := 1043) hG hXs hbl hbA (by have o0 := e20; have o1 := (q_subN (lo := (-6)) (hi := 3066) e23 g20 rl_6 (by decide)).1; have o2 := c24; have o3 := (q_addN (lo := 1) (hi := 3067) e1027 r_3 rl_1 (by decide)).1; have o4 := (q_addN (lo := 2) (hi := 3068) e1032 r_3 rl_2 (by decide)).1; have o5 := r_3; have o6 := r_116; have o7 := r_117; have o8 := g20; have o9 := r_4; have l10 := tl_1; have l11 := tl_2; have l12 := tl_6; unfold q_r at o5 o6 o7 o8 o9; omega) dL_law_1043 (fun v1043 e1043 => ?_)
        refine q_aload_n (pc := 1044) hG dL_law_1044 0 rfl ?_
        refine q_iload_n (pc := 1045) hG dL_law_1045 3 rfl ?_
        refine q_iconst (pc := 1046) hG dL_law_1046 ki_2 ?_
        refine q_iadd (pc := 1047) hG dL_law_1047 (fun v1047 e1047 => ?_)
        rw [e1047.trans e1032.symm]
        refine q_sld (pc := 1048) hG hXs hbl hbA (by have o0 := e20; have o1 := (q_subN (lo := (-6)) (hi := 3066) e23 g20 rl_6 (by decide)).1; have o2 := c24; have o3 := (q_addN (lo := 1) (hi := 3067) e1027 r_3 rl_1 (by decide)).1; have o4 := (q_addN (lo := 2) (hi := 3068) e1032 r_3 rl_2 (by decide)).1; have o5 := r_3; have o6 := r_116; have o7 := r_117; have o8 := g20; have o9 := r_4; have l10 := tl_1; have l11 := tl_2; have l12 := tl_6; unfold q_r at o5 o6 o7 o8 o9; omega) dL_law_1048 (fun v1048 e1048 => ?_)
        refine q_cVi (pc := 1049) [.int v1043, .int v1048] [] hG (c_X12_pinned τ s1034 a2 v1043 v1048 w1034.1 tA2) my_X12_pinned mv_X12_pinned w1064 dL_law_1049 tA2 (by decide) rfl rfl (Nat.le_of_ble_eq_true rfl) (by decide) (fun v1049 s1049 p1049 => ?_)
        have w1049 := w1034.trans p1049.1 rfl
        refine q_pop (pc := 1052) hG dL_law_1052 rfl ?_
        refine q_goto (pc := 1053) 1447 hG dL_law_1053 rfl ?_
        refine q_lv [0, 1, 2, 3] rfl ?_
        have ra_118 : zz_rs (fx_N s1049) c0 c1 c2 bn := (zz_rs.C (zz_rs.C iRA18 p1034.1 rfl Tc0 Tc1 Tc2 (fun j _ => p1034.1.2.arr Tbn (by decide) rfl)) p1049.1 rfl Tc0 Tc1 Tc2 (fun j _ => p1049.1.2.arr Tbn (by decide) rfl))
        have lw_119 : zi_L a1 a2 (fx_N s1049) := (zi_L.C w1034.1 tA1 tA2 p1049.1 rfl (zi_L.C hS18.1 tA1 tA2 p1034.1 rfl iLW18))
        have nw_120 : zw_L τ a1 a2 (fx_N s1049) := (zw_L.C tA1 tA2 p1049.1 rfl (zw_L.C tA1 tA2 p1034.1 rfl iNW18))
        exact J1447 s1049 KA18 KB18 DA18 DB18 EA18 EB18 TA18 TB18 w1049 ⟨(p1049.1.same tA1 rfl (p1034.1.same tA1 rfl iKA18.1)), iKA18.2⟩ ⟨(p1049.1.same tA2 rfl (p1034.1.same tA2 rfl iKB18.1)), iKB18.2⟩ (by have o0 := iKR18; have o1 := iER18; have o2 := iEA18.2; have o3 := iEB18.2; have o4 := iKA18.2; have o5 := iKB18.2; unfold q_r at o2 o3 o4 o5; omega) ⟨(p1049.1.same Tbr rfl (p1034.1.same Tbr rfl iDA18.1)), iDA18.2⟩ ⟨(p1049.1.same Tbn rfl (p1034.1.same Tbn rfl iDB18.1)), iDB18.2⟩ ⟨(p1049.1.same Tbk rfl (p1034.1.same Tbk rfl iEA18.1)), iEA18.2⟩ ⟨(p1049.1.same Tbm rfl (p1034.1.same Tbm rfl iEB18.1)), iEB18.2⟩ ⟨(p1049.1.same tA1 rfl (p1034.1.same tA1 rfl iTA18.1)), iTA18.2⟩ ⟨(p1049.1.same tA2 rfl (p1034.1.same tA2 rfl iTB18.1)), iTB18.2⟩ (by have o0 := iDR18; have o1 := iDA18.2; have o2 := iDB18.2; unfold q_r at o1 o2; omega) (by have o0 := iTR18; have o1 := iTA18.2; have o2 := iTB18.2; unfold q_r at o1 o2; omega) (by have o0 := iKR18; have o1 := iER18; have o2 := iEA18.2; have o3 := iEB18.2; have o4 := iKA18.2; have o5 := iKB18.2; unfold q_r at o2 o3 o4 o5; omega) (zz_tc.keep (zz_tc.keep iTC18 p1034.1.2 Tta Ttb rfl rfl) p1049.1.2 Tta Ttb rfl rfl) ra_118 lw_119 nw_120 (Or.imp id (fun z => zz_rs.C z p1049.1 rfl Te0 Te1 Te2 (fun j _ => p1049.1.2.arr Tbm (by decide) rfl)) (Or.imp id (fun z => zz_rs.C z p1034.1 rfl Te0 Te1 Te2 (fun j _ => p1034.1.2.arr Tbm (by decide) rfl)) iRE18)) ⟨(q_wf.keep w1034.1 p1049.1.2 tA2 rfl (q_wf.keep hS18.1 p1034.1.2 tA2 rfl iV18.1)), (q_kp.keep w1034.1 p1049.1.2 tA2 rfl (q_kp.keep hS18.1 p1034.1.2 tA2 rfl iV18.2))⟩
      by_cases z33_24 : v32.toInt = 24
      · skip
        refine q_tsIn (pc := 33) 24 1056 hG dL_law_33 z33_24 (by decide) rfl rfl ?_
        refine q_aload_n (pc := 1056) hG dL_law_1056 1 rfl ?_
        refine q_aload_n (pc := 1057) hG dL_law_1057 0 rfl ?_
        refine q_iload_n (pc := 1058) hG dL_law_1058 3 rfl ?_
        refine q_iconst (pc := 1059) hG dL_law_1059 ki_1 ?_
        refine q_iadd (pc := 1060) hG dL_law_1060 (fun v1060 e1060 => ?_)
        have r_121 := (q_addN (lo := 1) (hi := 3067) e1060 r_3 rl_1 (by decide)).2
        refine q_sld (pc := 1061) hG hXs hbl hbA (by have o0 := e20; have o1 := (q_subN (lo := (-6)) (hi := 3066) e23 g20 rl_6 (by decide)).1; have o2 := c24; have o3 := (q_addN (lo := 1) (hi := 3067) e1060 r_3 rl_1 (by decide)).1; have o4 := r_3; have o5 := r_121; have o6 := g20; have o7 := r_4; have l8 := tl_1; have l9 := tl_6; unfold q_r at o4 o5 o6 o7; omega) dL_law_1061 (fun v1061 e1061 => ?_)
        refine q_aload_n (pc := 1062) hG dL_law_1062 0 rfl ?_
        refine q_iload_n (pc := 1063) hG dL_law_1063 3 rfl ?_
        refine q_iconst (pc := 1064) hG dL_law_1064 ki_2 ?_
        refine q_iadd (pc := 1065) hG dL_law_1065 (fun v1065 e1065 => ?_)
        have r_122 := (q_addN (lo := 2) (hi := 3068) e1065 r_3 rl_2 (by decide)).2
        refine q_sld (pc := 1066) hG hXs hbl hbA (by have o0 := e20; have o1 := (q_subN (lo := (-6)) (hi := 3066) e23 g20 rl_6 (by decide)).1; have o2 := c24; have o3 := (q_addN (lo := 1) (hi := 3067) e1060 r_3 rl_1 (by decide)).1; have o4 := (q_addN (lo := 2) (hi := 3068) e1065 r_3 rl_2 (by decide)).1; have o5 := r_3; have o6 := r_121; have o7 := r_122; have o8 := g20; have o9 := r_4; have l10 := tl_1; have l11 := tl_2; have l12 := tl_6; unfold q_r at o5 o6 o7 o8 o9; omega) dL_law_1066 (fun v1066 e1066 => ?_)
        refine q_aload_n (pc := 1067) hG dL_law_1067 0 rfl ?_
        refine q_iload_n (pc := 1068) hG dL_law_1068 3 rfl ?_
        refine q_iconst (pc := 1069) hG dL_law_1069 ki_3 ?_
        refine q_iadd (pc := 1070) hG dL_law_1070 (fun v1070 e1070 => ?_)
        have r_123 := (q_addN (lo := 3) (hi := 3069) e1070 r_3 rl_3 (by decide)).2
        refine q_sld (pc := 1071) hG hXs hbl hbA (by have o0 := e20; have o1 := (q_subN (lo := (-6)) (hi := 3066) e23 g20 rl_6 (by decide)).1; have o2 := c24; have o3 := (q_addN (lo := 1) (hi := 3067) e1060 r_3 rl_1 (by decide)).1; have o4 := (q_addN (lo := 2) (hi := 3068) e1065 r_3 rl_2 (by decide)).1; have o5 := (q_addN (lo := 3) (hi := 3069) e1070 r_3 rl_3 (by decide)).1; have o6 := r_3; have o7 := r_121; have o8 := r_122; have o9 := r_123; have o10 := g20; have o11 := r_4; have l12 := tl_1; have l13 := tl_2; have l14 := tl_3; have l15 := tl_6; unfold q_r at o6 o7 o8 o9 o10 o11; omega) dL_law_1071 (fun v1071 e1071 => ?_)
        refine q_cVi (pc := 1072) [.int v1061, .int v1066, .int v1071] [] hG (c_X11_lights τ σ18 a1 v1061 v1066 v1071 hS18.1 tA1) my_X11_lights mv_X11_lights w647 dL_law_1072 tA1 (by decide) rfl rfl (Nat.le_of_ble_eq_true rfl) (by decide) (fun v1072 s1072 p1072 => ?_)
        have w1072 := hS18.trans p1072.1 rfl
        obtain ⟨z1072, fz1072, gz1072⟩ := (p1072.2.2 TA18 iTA18.1)
        have rz1072 : q_r z1072 0 260 := zz_rng (w1072.1 a1 9 1 tA1 1 (by decide)) ff_9_1 fz1072
        refine q_pop (pc := 1075) hG dL_law_1075 rfl ?_
        refine q_aload_n (pc := 1076) hG dL_law_1076 2 rfl ?_
        refine q_aload_n (pc := 1077) hG dL_law_1077 0 rfl ?_
        refine q_iload_n (pc := 1078) hG dL_law_1078 3 rfl ?_
        refine q_iconst (pc := 1079) hG dL_law_1079 ki_1 ?_
        refine q_iadd (pc := 1080) hG dL_law_1080 (fun v1080 e1080 => ?_)
        rw [e1080.trans e1060.symm]
        refine q_sld (pc := 1081) hG hXs hbl hbA (by have o0 := e20; have o1 := (q_subN (lo := (-6)) (hi := 3066) e23 g20 rl_6 (by decide)).1; have o2 := c24; have o3 := (q_addN (lo := 1) (hi := 3067) e1060 r_3 rl_1 (by decide)).1; have o4 := (q_addN (lo := 2) (hi := 3068) e1065 r_3 rl_2 (by decide)).1; have o5 := (q_addN (lo := 3) (hi := 3069) e1070 r_3 rl_3 (by decide)).1; have o6 := r_3; have o7 := r_121; have o8 := r_122; have o9 := r_123; have o10 := g20; have o11 := r_4; have l12 := tl_1; have l13 := tl_2; have l14 := tl_3; have l15 := tl_6; unfold q_r at o6 o7 o8 o9 o10 o11; omega) dL_law_1081 (fun v1081 e1081 => ?_)
        refine q_aload_n (pc := 1082) hG dL_law_1082 0 rfl ?_
        refine q_iload_n (pc := 1083) hG dL_law_1083 3 rfl ?_
        refine q_iconst (pc := 1084) hG dL_law_1084 ki_2 ?_
        refine q_iadd (pc := 1085) hG dL_law_1085 (fun v1085 e1085 => ?_)
        rw [e1085.trans e1065.symm]
        refine q_sld (pc := 1086) hG hXs hbl hbA (by have o0 := e20; have o1 := (q_subN (lo := (-6)) (hi := 3066) e23 g20 rl_6 (by decide)).1; have o2 := c24; have o3 := (q_addN (lo := 1) (hi := 3067) e1060 r_3 rl_1 (by decide)).1; have o4 := (q_addN (lo := 2) (hi := 3068) e1065 r_3 rl_2 (by decide)).1; have o5 := (q_addN (lo := 3) (hi := 3069) e1070 r_3 rl_3 (by decide)).1; have o6 := r_3; have o7 := r_121; have o8 := r_122; have o9 := r_123; have o10 := g20; have o11 := r_4; have l12 := tl_1; have l13 := tl_2; have l14 := tl_3; have l15 := tl_6; unfold q_r at o6 o7 o8 o9 o10 o11; omega) dL_law_1086 (fun v1086 e1086 => ?_)
        refine q_aload_n (pc := 1087) hG dL_law_1087 0 rfl ?_
        refine q_iload_n (pc := 1088) hG dL_law_1088 3 rfl ?_
        refine q_iconst (pc := 1089) hG dL_law_1089 ki_3 ?_
        refine q_iadd (pc := 1090) hG dL_law_1090 (fun v1090 e1090 => ?_)
        rw [e1090.trans e1070.symm]
        refine q_sld (pc := 1091) hG hXs hbl hbA (by have o0 := e20; have o1 := (q_subN (lo := (-6)) (hi := 3066) e23 g20 rl_6 (by decide)).1; have o2 := c24; have o3 := (q_addN (lo := 1) (hi := 3067) e1060 r_3 rl_1 (by decide)).1; have o4 := (q_addN (lo := 2) (hi := 3068) e1065 r_3 rl_2 (by decide)).1; have o5 := (q_addN (lo := 3) (hi := 3069) e1070 r_3 rl_3 (by decide)).1; have o6 := r_3; have o7 := r_121; have o8 := r_122; have o9 := r_123; have o10 := g20; have o11 := r_4; have l12 := tl_1; have l13 := tl_2; have l14 := tl_3; have l15 := tl_6; unfold q_r at o6 o7 o8 o9 o10 o11; omega) dL_law_1091 (fun v1091 e1091 => ?_)
        refine q_cVi (pc := 1092) [.int v1081, .int v1086, .int v1091] [] hG (c_X12_lights τ s1072 a2 v1081 v1086 v1091 w1072.1 tA2) my_X12_lights mv_X12_lights w1146 dL_law_1092 tA2 (by decide) rfl rfl (Nat.le_of_ble_eq_true rfl) (by decide) (fun v1092 s1092 p1092 => ?_)
        have w1092 := w1072.trans p1092.1 rfl
        obtain ⟨z1092, fz1092, gz1092⟩ := (p1092.2.2 TB18 (p1072.1.same tA2 rfl iTB18.1))
        have rz1092 : q_r z1092 0 260 := zz_rng (w1092.1 a2 10 1 tA2 4 (by decide)) ff_10_4 fz1092
        refine q_pop (pc := 1095) hG dL_law_1095 rfl ?_
        refine q_goto (pc := 1096) 1447 hG dL_law_1096 rfl ?_
        refine q_lv [0, 1, 2, 3] rfl ?_
        have ra_124 : zz_rs (fx_N s1092) c0 c1 c2 bn := (zz_rs.C (zz_rs.C iRA18 p1072.1 rfl Tc0 Tc1 Tc2 (fun j _ => p1072.1.2.arr Tbn (by decide) rfl)) p1092.1 rfl Tc0 Tc1 Tc2 (fun j _ => p1092.1.2.arr Tbn (by decide) rfl))
        have lw_125 : zi_L a1 a2 (fx_N s1092) := (zi_L.C w1072.1 tA1 tA2 p1092.1 rfl (zi_L.C hS18.1 tA1 tA2 p1072.1 rfl iLW18))
        have nw_126 : zw_L τ a1 a2 (fx_N s1092) := (zw_L.C tA1 tA2 p1092.1 rfl (zw_L.C tA1 tA2 p1072.1 rfl iNW18))
        exact J1447 s1092 KA18 KB18 DA18 DB18 EA18 EB18 z1072 z1092 w1092 ⟨(p1092.1.same tA1 rfl (p1072.1.same tA1 rfl iKA18.1)), iKA18.2⟩ ⟨(p1092.1.same tA2 rfl (p1072.1.same tA2 rfl iKB18.1)), iKB18.2⟩ (by have o0 := iKR18; have o1 := iER18; have o2 := iEA18.2; have o3 := iEB18.2; have o4 := iKA18.2; have o5 := iKB18.2; unfold q_r at o2 o3 o4 o5; omega) ⟨(p1092.1.same Tbr rfl (p1072.1.same Tbr rfl iDA18.1)), iDA18.2⟩ ⟨(p1092.1.same Tbn rfl (p1072.1.same Tbn rfl iDB18.1)), iDB18.2⟩ ⟨(p1092.1.same Tbk rfl (p1072.1.same Tbk rfl iEA18.1)), iEA18.2⟩ ⟨(p1092.1.same Tbm rfl (p1072.1.same Tbm rfl iEB18.1)), iEB18.2⟩ ⟨(p1092.1.same tA1 rfl fz1072), rz1072⟩ ⟨fz1092, rz1092⟩ (by have o0 := iDR18; have o1 := iDA18.2; have o2 := iDB18.2; unfold q_r at o1 o2; omega) (by have o0 := gz1072; have o1 := (congrArg Int32.toInt (e1081.trans e1061.symm)); have o2 := (congrArg Int32.toInt (e1086.trans e1066.symm)); have o3 := (congrArg Int32.toInt (e1091.trans e1071.symm)); have o4 := gz1092; have o5 := iTR18; have o6 := iTA18.2; have o7 := iTB18.2; have o8 := p1072.2.1; have o9 := p1092.2.1; have o10 := rz1072; have o11 := rz1092; unfold q_r at o6 o7 o8 o9 o10 o11; omega) (by have o0 := iKR18; have o1 := iER18; have o2 := iEA18.2; have o3 := iEB18.2; have o4 := iKA18.2; have o5 := iKB18.2; unfold q_r at o2 o3 o4 o5; omega) (zz_tc.less (zz_tc.keep (zz_tc.keep iTC18 p1072.1.2 Tta Ttb rfl rfl) p1092.1.2 Tta Ttb rfl rfl) (by have o0 := iTR18; have o1 := gz1072; have o2 := (congrArg Int32.toInt (e1081.trans e1061.symm)); have o3 := (congrArg Int32.toInt (e1086.trans e1066.symm)); have o4 := (congrArg Int32.toInt (e1091.trans e1071.symm)); have o5 := gz1092; have o6 := iTA18.2; have o7 := iTB18.2; have o8 := p1072.2.1; have o9 := p1092.2.1; have o10 := rz1072; have o11 := rz1092; unfold q_r at o6 o7 o8 o9 o10 o11; omega)) ra_124 lw_125 nw_126 (Or.imp id (fun z => zz_rs.C z p1092.1 rfl Te0 Te1 Te2 (fun j _ => p1092.1.2.arr Tbm (by decide) rfl)) (Or.imp id (fun z => zz_rs.C z p1072.1 rfl Te0 Te1 Te2 (fun j _ => p1072.1.2.arr Tbm (by decide) rfl)) iRE18)) ⟨(q_wf.keep w1072.1 p1092.1.2 tA2 rfl (q_wf.keep hS18.1 p1072.1.2 tA2 rfl iV18.1)), (q_kp.keep w1072.1 p1092.1.2 tA2 rfl (q_kp.keep hS18.1 p1072.1.2 tA2 rfl iV18.2))⟩
      by_cases z33_25 : v32.toInt = 25
      · skip
        refine q_tsIn (pc := 33) 25 1099 hG dL_law_33 z33_25 (by decide) rfl rfl ?_
        refine q_aload_n (pc := 1099) hG dL_law_1099 1 rfl ?_
        refine q_aload_n (pc := 1100) hG dL_law_1100 0 rfl ?_
        refine q_iload_n (pc := 1101) hG dL_law_1101 3 rfl ?_
        refine q_iconst (pc := 1102) hG dL_law_1102 ki_1 ?_
        refine q_iadd (pc := 1103) hG dL_law_1103 (fun v1103 e1103 => ?_)
        have r_127 := (q_addN (lo := 1) (hi := 3067) e1103 r_3 rl_1 (by decide)).2
        refine q_sld (pc := 1104) hG hXs hbl hbA (by have o0 := e20; have o1 := (q_subN (lo := (-6)) (hi := 3066) e23 g20 rl_6 (by decide)).1; have o2 := c24; have o3 := (q_addN (lo := 1) (hi := 3067) e1103 r_3 rl_1 (by decide)).1; have o4 := r_3; have o5 := r_127; have o6 := g20; have o7 := r_4; have l8 := tl_1; have l9 := tl_6; unfold q_r at o4 o5 o6 o7; omega) dL_law_1104 (fun v1104 e1104 => ?_)
        refine q_aload_n (pc := 1105) hG dL_law_1105 0 rfl ?_
        refine q_iload_n (pc := 1106) hG dL_law_1106 3 rfl ?_
        refine q_iconst (pc := 1107) hG dL_law_1107 ki_2 ?_
        refine q_iadd (pc := 1108) hG dL_law_1108 (fun v1108 e1108 => ?_)
        have r_128 := (q_addN (lo := 2) (hi := 3068) e1108 r_3 rl_2 (by decide)).2
        refine q_sld (pc := 1109) hG hXs hbl hbA (by have o0 := e20; have o1 := (q_subN (lo := (-6)) (hi := 3066) e23 g20 rl_6 (by decide)).1; have o2 := c24; have o3 := (q_addN (lo := 1) (hi := 3067) e1103 r_3 rl_1 (by decide)).1; have o4 := (q_addN (lo := 2) (hi := 3068) e1108 r_3 rl_2 (by decide)).1; have o5 := r_3; have o6 := r_127; have o7 := r_128; have o8 := g20; have o9 := r_4; have l10 := tl_1; have l11 := tl_2; have l12 := tl_6; unfold q_r at o5 o6 o7 o8 o9; omega) dL_law_1109 (fun v1109 e1109 => ?_)
        have J1118 : ∀ (p1118_s0 : Int32), (q_r p1118_s0 0 1) → ((v1109.toInt = 0 ∧ p1118_s0.toInt = 0) ∨ (v1109.toInt ≠ 0 ∧ p1118_s0.toInt = 1)) → q_O X 118 11908 τ σ18 1118 [(0, .ref b), (1, .ref a1), (2, .ref a2), (3, .int p18_3)] [.int p1118_s0, .int v1104, .ref a1] := by
          intro p1118_s0 r1118_s0 iB1118
          refine q_cVi (pc := 1118) [.int v1104, .int p1118_s0] [] hG (c_X11_believed τ σ18 a1 v1104 p1118_s0 hS18.1 tA1 r1118_s0) my_X11_believed mv_X11_believed w671 dL_law_1118 tA1 (by decide) rfl rfl (Nat.le_of_ble_eq_true rfl) (by decide) (fun v1118 s1118 p1118 => ?_)
          have w1118 := hS18.trans p1118.1 rfl
          refine q_pop (pc := 1121) hG dL_law_1121 rfl ?_
          refine q_aload_n (pc := 1122) hG dL_law_1122 2 rfl ?_
          refine q_aload_n (pc := 1123) hG dL_law_1123 0 rfl ?_
          refine q_iload_n (pc := 1124) hG dL_law_1124 3 rfl ?_
          refine q_iconst (pc := 1125) hG dL_law_1125 ki_1 ?_
          refine q_iadd (pc := 1126) hG dL_law_1126 (fun v1126 e1126 => ?_)
          rw [e1126.trans e1103.symm]
          refine q_sld (pc := 1127) hG hXs hbl hbA (by have o0 := e20; have o1 := (q_subN (lo := (-6)) (hi := 3066) e23 g20 rl_6 (by decide)).1; have o2 := c24; have o3 := (q_addN (lo := 1) (hi := 3067) e1103 r_3 rl_1 (by decide)).1; have o4 := (q_addN (lo := 2) (hi := 3068) e1108 r_3 rl_2 (by decide)).1; have o5 := r_3; have o6 := r_127; have o7 := r_128; have o8 := g20; have o9 := r_4; have l10 := tl_1; have l11 := tl_2; have l12 := tl_6; unfold q_r at o5 o6 o7 o8 o9; omega) dL_law_1127 (fun v1127 e1127 => ?_)
          refine q_aload_n (pc := 1128) hG dL_law_1128 0 rfl ?_
          refine q_iload_n (pc := 1129) hG dL_law_1129 3 rfl ?_
          refine q_iconst (pc := 1130) hG dL_law_1130 ki_2 ?_
          refine q_iadd (pc := 1131) hG dL_law_1131 (fun v1131 e1131 => ?_)
          rw [e1131.trans e1108.symm]
          refine q_sld (pc := 1132) hG hXs hbl hbA (by have o0 := e20; have o1 := (q_subN (lo := (-6)) (hi := 3066) e23 g20 rl_6 (by decide)).1; have o2 := c24; have o3 := (q_addN (lo := 1) (hi := 3067) e1103 r_3 rl_1 (by decide)).1; have o4 := (q_addN (lo := 2) (hi := 3068) e1108 r_3 rl_2 (by decide)).1; have o5 := r_3; have o6 := r_127; have o7 := r_128; have o8 := g20; have o9 := r_4; have l10 := tl_1; have l11 := tl_2; have l12 := tl_6; unfold q_r at o5 o6 o7 o8 o9; omega) dL_law_1132 (fun v1132 e1132 => ?_)
          have J1141 : ∀ (p1141_s0 : Int32), (q_r p1141_s0 0 1) → ((v1132.toInt = 0 ∧ p1141_s0.toInt = 0) ∨ (v1132.toInt ≠ 0 ∧ p1141_s0.toInt = 1)) → q_O X 118 11908 τ s1118 1141 [(0, .ref b), (1, .ref a1), (2, .ref a2), (3, .int p18_3)] [.int p1141_s0, .int v1127, .ref a2] := by
            intro p1141_s0 r1141_s0 iB1141
            refine q_cVi (pc := 1141) [.int v1127, .int p1141_s0] [] hG (c_X12_believed τ s1118 a2 v1127 p1141_s0 w1118.1 tA2 r1141_s0 (q_wf.keep hS18.1 p1118.1.2 tA2 rfl iV18.1)) my_X12_believed mv_X12_believed w1159 dL_law_1141 tA2 (by decide) rfl rfl (Nat.le_of_ble_eq_true rfl) (by decide) (fun v1141 s1141 p1141 => ?_)
            have w1141 := w1118.trans p1141.1 rfl
            refine q_pop (pc := 1144) hG dL_law_1144 rfl ?_
            refine q_goto (pc := 1145) 1447 hG dL_law_1145 rfl ?_
            refine q_lv [0, 1, 2, 3] rfl ?_
            have ra_129 : zz_rs (fx_N s1141) c0 c1 c2 bn := (zz_rs.C (zz_rs.C iRA18 p1118.1 rfl Tc0 Tc1 Tc2 (fun j _ => p1118.1.2.arr Tbn (by decide) rfl)) p1141.1 rfl Tc0 Tc1 Tc2 (fun j _ => p1141.1.2.arr Tbn (by decide) rfl))
            have lw_130 : zi_L a1 a2 (fx_N s1141) := (zi_L.C w1118.1 tA1 tA2 p1141.1 rfl (zi_L.C hS18.1 tA1 tA2 p1118.1 rfl iLW18))
            have nw_131 : zw_L τ a1 a2 (fx_N s1141) := (zw_L.C tA1 tA2 p1141.1 rfl (zw_L.C tA1 tA2 p1118.1 rfl iNW18))
            exact J1447 s1141 KA18 KB18 DA18 DB18 EA18 EB18 TA18 TB18 w1141 ⟨(p1141.1.same tA1 rfl (p1118.1.same tA1 rfl iKA18.1)), iKA18.2⟩ ⟨(p1141.1.same tA2 rfl (p1118.1.same tA2 rfl iKB18.1)), iKB18.2⟩ (by have o0 := iKR18; have o1 := iER18; have o2 := iEA18.2; have o3 := iEB18.2; have o4 := iKA18.2; have o5 := iKB18.2; unfold q_r at o2 o3 o4 o5; omega) ⟨(p1141.1.same Tbr rfl (p1118.1.same Tbr rfl iDA18.1)), iDA18.2⟩ ⟨(p1141.1.same Tbn rfl (p1118.1.same Tbn rfl iDB18.1)), iDB18.2⟩ ⟨(p1141.1.same Tbk rfl (p1118.1.same Tbk rfl iEA18.1)), iEA18.2⟩ ⟨(p1141.1.same Tbm rfl (p1118.1.same Tbm rfl iEB18.1)), iEB18.2⟩ ⟨(p1141.1.same tA1 rfl (p1118.1.same tA1 rfl iTA18.1)), iTA18.2⟩ ⟨(p1141.1.same tA2 rfl (p1118.1.same tA2 rfl iTB18.1)), iTB18.2⟩ (by have o0 := iDR18; have o1 := iDA18.2; have o2 := iDB18.2; unfold q_r at o1 o2; omega) (by have o0 := iTR18; have o1 := iTA18.2; have o2 := iTB18.2; unfold q_r at o1 o2; omega) (by have o0 := iKR18; have o1 := iER18; have o2 := iEA18.2; have o3 := iEB18.2; have o4 := iKA18.2; have o5 := iKB18.2; unfold q_r at o2 o3 o4 o5; omega) (zz_tc.keep (zz_tc.keep iTC18 p1118.1.2 Tta Ttb rfl rfl) p1141.1.2 Tta Ttb rfl rfl) ra_129 lw_130 nw_131 (Or.imp id (fun z => zz_rs.C z p1141.1 rfl Te0 Te1 Te2 (fun j _ => p1141.1.2.arr Tbm (by decide) rfl)) (Or.imp id (fun z => zz_rs.C z p1118.1 rfl Te0 Te1 Te2 (fun j _ => p1118.1.2.arr Tbm (by decide) rfl)) iRE18)) ⟨(q_wf.keep w1118.1 p1141.1.2 tA2 rfl (q_wf.keep hS18.1 p1118.1.2 tA2 rfl iV18.1)), (q_kp.keep w1118.1 p1141.1.2 tA2 rfl (q_kp.keep hS18.1 p1118.1.2 tA2 rfl iV18.2))⟩
          refine q_if_eq (pc := 1133) hG 1140 dL_law_1133 rfl ?_ ?_
          · intro c1133
            refine q_iconst (pc := 1140) hG dL_law_1140 ki_0 ?_
            refine q_lv [0, 1, 2, 3] rfl ?_
            have r_132 := q_zeq c1133
            exact J1141 0 (q_r.mono rl_0 (by decide)) (by have o0 := (congrArg Int32.toInt (e1132.trans e1109.symm)); have o1 := c1133; have o2 := iB1118; have o3 := r1118_s0; have o4 := r_132; have l5 := tl_0; unfold q_r at o3 o4; omega)
          intro c1133
          refine q_iconst (pc := 1136) hG dL_law_1136 ki_1 ?_
          refine q_goto (pc := 1137) 1141 hG dL_law_1137 rfl ?_
          refine q_lv [0, 1, 2, 3] rfl ?_
          exact J1141 1 (q_r.mono rl_1 (by decide)) (by have o0 := (congrArg Int32.toInt (e1132.trans e1109.symm)); have o1 := c1133; have o2 := iB1118; have o3 := r1118_s0; have l4 := tl_1; unfold q_r at o3; omega)
        refine q_if_eq (pc := 1110) hG 1117 dL_law_1110 rfl ?_ ?_
        · intro c1110
          refine q_iconst (pc := 1117) hG dL_law_1117 ki_0 ?_
          refine q_lv [0, 1, 2, 3] rfl ?_
          have r_133 := q_zeq c1110
          exact J1118 0 (q_r.mono rl_0 (by decide)) (by have o0 := c1110; have o1 := r_133; have l2 := tl_0; unfold q_r at o1; omega)
        intro c1110
        refine q_iconst (pc := 1113) hG dL_law_1113 ki_1 ?_
        refine q_goto (pc := 1114) 1118 hG dL_law_1114 rfl ?_
        refine q_lv [0, 1, 2, 3] rfl ?_
        exact J1118 1 (q_r.mono rl_1 (by decide)) (by have o0 := c1110; have l1 := tl_1; omega)
      by_cases z33_26 : v32.toInt = 26
      · skip
        refine q_tsIn (pc := 33) 26 1148 hG dL_law_33 z33_26 (by decide) rfl rfl ?_
        refine q_aload_n (pc := 1148) hG dL_law_1148 1 rfl ?_
        refine q_aload_n (pc := 1149) hG dL_law_1149 0 rfl ?_
        refine q_iload_n (pc := 1150) hG dL_law_1150 3 rfl ?_
        refine q_iconst (pc := 1151) hG dL_law_1151 ki_1 ?_
        refine q_iadd (pc := 1152) hG dL_law_1152 (fun v1152 e1152 => ?_)
        have r_134 := (q_addN (lo := 1) (hi := 3067) e1152 r_3 rl_1 (by decide)).2
        refine q_sld (pc := 1153) hG hXs hbl hbA (by have o0 := e20; have o1 := (q_subN (lo := (-6)) (hi := 3066) e23 g20 rl_6 (by decide)).1; have o2 := c24; have o3 := (q_addN (lo := 1) (hi := 3067) e1152 r_3 rl_1 (by decide)).1; have o4 := r_3; have o5 := r_134; have o6 := g20; have o7 := r_4; have l8 := tl_1; have l9 := tl_6; unfold q_r at o4 o5 o6 o7; omega) dL_law_1153 (fun v1153 e1153 => ?_)
        refine q_aload_n (pc := 1154) hG dL_law_1154 0 rfl ?_
        refine q_iload_n (pc := 1155) hG dL_law_1155 3 rfl ?_
        refine q_iconst (pc := 1156) hG dL_law_1156 ki_2 ?_
        refine q_iadd (pc := 1157) hG dL_law_1157 (fun v1157 e1157 => ?_)
        have r_135 := (q_addN (lo := 2) (hi := 3068) e1157 r_3 rl_2 (by decide)).2
        refine q_sld (pc := 1158) hG hXs hbl hbA (by have o0 := e20; have o1 := (q_subN (lo := (-6)) (hi := 3066) e23 g20 rl_6 (by decide)).1; have o2 := c24; have o3 := (q_addN (lo := 1) (hi := 3067) e1152 r_3 rl_1 (by decide)).1; have o4 := (q_addN (lo := 2) (hi := 3068) e1157 r_3 rl_2 (by decide)).1; have o5 := r_3; have o6 := r_134; have o7 := r_135; have o8 := g20; have o9 := r_4; have l10 := tl_1; have l11 := tl_2; have l12 := tl_6; unfold q_r at o5 o6 o7 o8 o9; omega) dL_law_1158 (fun v1158 e1158 => ?_)
        have J1167 : ∀ (p1167_s0 : Int32), (q_r p1167_s0 0 1) → ((v1158.toInt = 0 ∧ p1167_s0.toInt = 0) ∨ (v1158.toInt ≠ 0 ∧ p1167_s0.toInt = 1)) → q_O X 118 11908 τ σ18 1167 [(0, .ref b), (1, .ref a1), (2, .ref a2), (3, .int p18_3)] [.int p1167_s0, .int v1153, .ref a1] := by
          intro p1167_s0 r1167_s0 iB1167
          refine q_cVi (pc := 1167) [.int v1153, .int p1167_s0] [] hG (c_X11_lost τ σ18 a1 v1153 p1167_s0 hS18.1 tA1 r1167_s0) my_X11_lost mv_X11_lost w681 dL_law_1167 tA1 (by decide) rfl rfl (Nat.le_of_ble_eq_true rfl) (by decide) (fun v1167 s1167 p1167 => ?_)
          have w1167 := hS18.trans p1167.1 rfl
          refine q_pop (pc := 1170) hG dL_law_1170 rfl ?_
          refine q_aload_n (pc := 1171) hG dL_law_1171 2 rfl ?_
          refine q_aload_n (pc := 1172) hG dL_law_1172 0 rfl ?_
          refine q_iload_n (pc := 1173) hG dL_law_1173 3 rfl ?_
          refine q_iconst (pc := 1174) hG dL_law_1174 ki_1 ?_
          refine q_iadd (pc := 1175) hG dL_law_1175 (fun v1175 e1175 => ?_)
          rw [e1175.trans e1152.symm]
          refine q_sld (pc := 1176) hG hXs hbl hbA (by have o0 := e20; have o1 := (q_subN (lo := (-6)) (hi := 3066) e23 g20 rl_6 (by decide)).1; have o2 := c24; have o3 := (q_addN (lo := 1) (hi := 3067) e1152 r_3 rl_1 (by decide)).1; have o4 := (q_addN (lo := 2) (hi := 3068) e1157 r_3 rl_2 (by decide)).1; have o5 := r_3; have o6 := r_134; have o7 := r_135; have o8 := g20; have o9 := r_4; have l10 := tl_1; have l11 := tl_2; have l12 := tl_6; unfold q_r at o5 o6 o7 o8 o9; omega) dL_law_1176 (fun v1176 e1176 => ?_)
          refine q_aload_n (pc := 1177) hG dL_law_1177 0 rfl ?_
          refine q_iload_n (pc := 1178) hG dL_law_1178 3 rfl ?_
          refine q_iconst (pc := 1179) hG dL_law_1179 ki_2 ?_
          refine q_iadd (pc := 1180) hG dL_law_1180 (fun v1180 e1180 => ?_)
          rw [e1180.trans e1157.symm]
          refine q_sld (pc := 1181) hG hXs hbl hbA (by have o0 := e20; have o1 := (q_subN (lo := (-6)) (hi := 3066) e23 g20 rl_6 (by decide)).1; have o2 := c24; have o3 := (q_addN (lo := 1) (hi := 3067) e1152 r_3 rl_1 (by decide)).1; have o4 := (q_addN (lo := 2) (hi := 3068) e1157 r_3 rl_2 (by decide)).1; have o5 := r_3; have o6 := r_134; have o7 := r_135; have o8 := g20; have o9 := r_4; have l10 := tl_1; have l11 := tl_2; have l12 := tl_6; unfold q_r at o5 o6 o7 o8 o9; omega) dL_law_1181 (fun v1181 e1181 => ?_)
          have J1190 : ∀ (p1190_s0 : Int32), (q_r p1190_s0 0 1) → ((v1181.toInt = 0 ∧ p1190_s0.toInt = 0) ∨ (v1181.toInt ≠ 0 ∧ p1190_s0.toInt = 1)) → q_O X 118 11908 τ s1167 1190 [(0, .ref b), (1, .ref a1), (2, .ref a2), (3, .int p18_3)] [.int p1190_s0, .int v1176, .ref a2] := by
            intro p1190_s0 r1190_s0 iB1190
            refine q_cVi (pc := 1190) [.int v1176, .int p1190_s0] [] hG (c_X12_lost τ s1167 a2 v1176 p1190_s0 w1167.1 tA2 r1190_s0 (q_wf.keep hS18.1 p1167.1.2 tA2 rfl iV18.1)) my_X12_lost mv_X12_lost w1169 dL_law_1190 tA2 (by decide) rfl rfl (Nat.le_of_ble_eq_true rfl) (by decide) (fun v1190 s1190 p1190 => ?_)
            have w1190 := w1167.trans p1190.1 rfl
            refine q_pop (pc := 1193) hG dL_law_1193 rfl ?_
            refine q_goto (pc := 1194) 1447 hG dL_law_1194 rfl ?_
            refine q_lv [0, 1, 2, 3] rfl ?_
            have ra_136 : zz_rs (fx_N s1190) c0 c1 c2 bn := (zz_rs.C (zz_rs.C iRA18 p1167.1 rfl Tc0 Tc1 Tc2 (fun j _ => p1167.1.2.arr Tbn (by decide) rfl)) p1190.1 rfl Tc0 Tc1 Tc2 (fun j _ => p1190.1.2.arr Tbn (by decide) rfl))
            have lw_137 : zi_L a1 a2 (fx_N s1190) := (zi_L.C w1167.1 tA1 tA2 p1190.1 rfl (zi_L.C hS18.1 tA1 tA2 p1167.1 rfl iLW18))
            have nw_138 : zw_L τ a1 a2 (fx_N s1190) := (zw_L.C tA1 tA2 p1190.1 rfl (zw_L.C tA1 tA2 p1167.1 rfl iNW18))
            exact J1447 s1190 KA18 KB18 DA18 DB18 EA18 EB18 TA18 TB18 w1190 ⟨(p1190.1.same tA1 rfl (p1167.1.same tA1 rfl iKA18.1)), iKA18.2⟩ ⟨(p1190.1.same tA2 rfl (p1167.1.same tA2 rfl iKB18.1)), iKB18.2⟩ (by have o0 := iKR18; have o1 := iER18; have o2 := iEA18.2; have o3 := iEB18.2; have o4 := iKA18.2; have o5 := iKB18.2; unfold q_r at o2 o3 o4 o5; omega) ⟨(p1190.1.same Tbr rfl (p1167.1.same Tbr rfl iDA18.1)), iDA18.2⟩ ⟨(p1190.1.same Tbn rfl (p1167.1.same Tbn rfl iDB18.1)), iDB18.2⟩ ⟨(p1190.1.same Tbk rfl (p1167.1.same Tbk rfl iEA18.1)), iEA18.2⟩ ⟨(p1190.1.same Tbm rfl (p1167.1.same Tbm rfl iEB18.1)), iEB18.2⟩ ⟨(p1190.1.same tA1 rfl (p1167.1.same tA1 rfl iTA18.1)), iTA18.2⟩ ⟨(p1190.1.same tA2 rfl (p1167.1.same tA2 rfl iTB18.1)), iTB18.2⟩ (by have o0 := iDR18; have o1 := iDA18.2; have o2 := iDB18.2; unfold q_r at o1 o2; omega) (by have o0 := iTR18; have o1 := iTA18.2; have o2 := iTB18.2; unfold q_r at o1 o2; omega) (by have o0 := iKR18; have o1 := iER18; have o2 := iEA18.2; have o3 := iEB18.2; have o4 := iKA18.2; have o5 := iKB18.2; unfold q_r at o2 o3 o4 o5; omega) (zz_tc.keep (zz_tc.keep iTC18 p1167.1.2 Tta Ttb rfl rfl) p1190.1.2 Tta Ttb rfl rfl) ra_136 lw_137 nw_138 (Or.imp id (fun z => zz_rs.C z p1190.1 rfl Te0 Te1 Te2 (fun j _ => p1190.1.2.arr Tbm (by decide) rfl)) (Or.imp id (fun z => zz_rs.C z p1167.1 rfl Te0 Te1 Te2 (fun j _ => p1167.1.2.arr Tbm (by decide) rfl)) iRE18)) ⟨(q_wf.keep w1167.1 p1190.1.2 tA2 rfl (q_wf.keep hS18.1 p1167.1.2 tA2 rfl iV18.1)), (q_kp.keep w1167.1 p1190.1.2 tA2 rfl (q_kp.keep hS18.1 p1167.1.2 tA2 rfl iV18.2))⟩
          refine q_if_eq (pc := 1182) hG 1189 dL_law_1182 rfl ?_ ?_
          · intro c1182
            refine q_iconst (pc := 1189) hG dL_law_1189 ki_0 ?_
            refine q_lv [0, 1, 2, 3] rfl ?_
            have r_139 := q_zeq c1182
            exact J1190 0 (q_r.mono rl_0 (by decide)) (by have o0 := (congrArg Int32.toInt (e1181.trans e1158.symm)); have o1 := c1182; have o2 := iB1167; have o3 := r1167_s0; have o4 := r_139; have l5 := tl_0; unfold q_r at o3 o4; omega)
          intro c1182
          refine q_iconst (pc := 1185) hG dL_law_1185 ki_1 ?_
          refine q_goto (pc := 1186) 1190 hG dL_law_1186 rfl ?_
          refine q_lv [0, 1, 2, 3] rfl ?_
          exact J1190 1 (q_r.mono rl_1 (by decide)) (by have o0 := (congrArg Int32.toInt (e1181.trans e1158.symm)); have o1 := c1182; have o2 := iB1167; have o3 := r1167_s0; have l4 := tl_1; unfold q_r at o3; omega)
        refine q_if_eq (pc := 1159) hG 1166 dL_law_1159 rfl ?_ ?_
        · intro c1159
          refine q_iconst (pc := 1166) hG dL_law_1166 ki_0 ?_
          refine q_lv [0, 1, 2, 3] rfl ?_
          have r_140 := q_zeq c1159
          exact J1167 0 (q_r.mono rl_0 (by decide)) (by have o0 := c1159; have o1 := r_140; have l2 := tl_0; unfold q_r at o1; omega)
        intro c1159
        refine q_iconst (pc := 1162) hG dL_law_1162 ki_1 ?_
        refine q_goto (pc := 1163) 1167 hG dL_law_1163 rfl ?_
        refine q_lv [0, 1, 2, 3] rfl ?_
        exact J1167 1 (q_r.mono rl_1 (by decide)) (by have o0 := c1159; have l1 := tl_1; omega)
      by_cases z33_27 : v32.toInt = 27
      · skip
        refine q_tsIn (pc := 33) 27 1197 hG dL_law_33 z33_27 (by decide) rfl rfl ?_
        refine q_aload_n (pc := 1197) hG dL_law_1197 1 rfl ?_
        refine q_aload_n (pc := 1198) hG dL_law_1198 0 rfl ?_
        refine q_iload_n (pc := 1199) hG dL_law_1199 3 rfl ?_
        refine q_iconst (pc := 1200) hG dL_law_1200 ki_1 ?_
        refine q_iadd (pc := 1201) hG dL_law_1201 (fun v1201 e1201 => ?_)
        have r_141 := (q_addN (lo := 1) (hi := 3067) e1201 r_3 rl_1 (by decide)).2
        refine q_sld (pc := 1202) hG hXs hbl hbA (by have o0 := e20; have o1 := (q_subN (lo := (-6)) (hi := 3066) e23 g20 rl_6 (by decide)).1; have o2 := c24; have o3 := (q_addN (lo := 1) (hi := 3067) e1201 r_3 rl_1 (by decide)).1; have o4 := r_3; have o5 := r_141; have o6 := g20; have o7 := r_4; have l8 := tl_1; have l9 := tl_6; unfold q_r at o4 o5 o6 o7; omega) dL_law_1202 (fun v1202 e1202 => ?_)
        refine q_aload_n (pc := 1203) hG dL_law_1203 0 rfl ?_
        refine q_iload_n (pc := 1204) hG dL_law_1204 3 rfl ?_
        refine q_iconst (pc := 1205) hG dL_law_1205 ki_2 ?_
        refine q_iadd (pc := 1206) hG dL_law_1206 (fun v1206 e1206 => ?_)
        have r_142 := (q_addN (lo := 2) (hi := 3068) e1206 r_3 rl_2 (by decide)).2
        refine q_sld (pc := 1207) hG hXs hbl hbA (by have o0 := e20; have o1 := (q_subN (lo := (-6)) (hi := 3066) e23 g20 rl_6 (by decide)).1; have o2 := c24; have o3 := (q_addN (lo := 1) (hi := 3067) e1201 r_3 rl_1 (by decide)).1; have o4 := (q_addN (lo := 2) (hi := 3068) e1206 r_3 rl_2 (by decide)).1; have o5 := r_3; have o6 := r_141; have o7 := r_142; have o8 := g20; have o9 := r_4; have l10 := tl_1; have l11 := tl_2; have l12 := tl_6; unfold q_r at o5 o6 o7 o8 o9; omega) dL_law_1207 (fun v1207 e1207 => ?_)
        refine q_aload_n (pc := 1208) hG dL_law_1208 0 rfl ?_
        refine q_iload_n (pc := 1209) hG dL_law_1209 3 rfl ?_
        refine q_iconst (pc := 1210) hG dL_law_1210 ki_3 ?_
        refine q_iadd (pc := 1211) hG dL_law_1211 (fun v1211 e1211 => ?_)
        have r_143 := (q_addN (lo := 3) (hi := 3069) e1211 r_3 rl_3 (by decide)).2
        refine q_sld (pc := 1212) hG hXs hbl hbA (by have o0 := e20; have o1 := (q_subN (lo := (-6)) (hi := 3066) e23 g20 rl_6 (by decide)).1; have o2 := c24; have o3 := (q_addN (lo := 1) (hi := 3067) e1201 r_3 rl_1 (by decide)).1; have o4 := (q_addN (lo := 2) (hi := 3068) e1206 r_3 rl_2 (by decide)).1; have o5 := (q_addN (lo := 3) (hi := 3069) e1211 r_3 rl_3 (by decide)).1; have o6 := r_3; have o7 := r_141; have o8 := r_142; have o9 := r_143; have o10 := g20; have o11 := r_4; have l12 := tl_1; have l13 := tl_2; have l14 := tl_3; have l15 := tl_6; unfold q_r at o6 o7 o8 o9 o10 o11; omega) dL_law_1212 (fun v1212 e1212 => ?_)
        have J1221 : ∀ (p1221_s0 : Int32), (q_r p1221_s0 0 1) → ((v1212.toInt = 0 ∧ p1221_s0.toInt = 0) ∨ (v1212.toInt ≠ 0 ∧ p1221_s0.toInt = 1)) → q_O X 118 11908 τ σ18 1221 [(0, .ref b), (1, .ref a1), (2, .ref a2), (3, .int p18_3)] [.int p1221_s0, .int v1207, .int v1202, .ref a1] := by
          intro p1221_s0 r1221_s0 iB1221
          refine q_aload_n (pc := 1221) hG dL_law_1221 0 rfl ?_
          refine q_iload_n (pc := 1222) hG dL_law_1222 3 rfl ?_
          refine q_iconst (pc := 1223) hG dL_law_1223 ki_4 ?_
          refine q_iadd (pc := 1224) hG dL_law_1224 (fun v1224 e1224 => ?_)
          have r_144 := (q_addN (lo := 4) (hi := 3070) e1224 r_3 rl_4 (by decide)).2
          refine q_sld (pc := 1225) hG hXs hbl hbA (by have o0 := e20; have o1 := (q_subN (lo := (-6)) (hi := 3066) e23 g20 rl_6 (by decide)).1; have o2 := c24; have o3 := (q_addN (lo := 1) (hi := 3067) e1201 r_3 rl_1 (by decide)).1; have o4 := (q_addN (lo := 2) (hi := 3068) e1206 r_3 rl_2 (by decide)).1; have o5 := (q_addN (lo := 3) (hi := 3069) e1211 r_3 rl_3 (by decide)).1; have o6 := (q_addN (lo := 4) (hi := 3070) e1224 r_3 rl_4 (by decide)).1; have o7 := r_3; have o8 := r_141; have o9 := r_142; have o10 := r_143; have o11 := r_144; have o12 := g20; have o13 := r_4; have l14 := tl_1; have l15 := tl_2; have l16 := tl_3; have l17 := tl_4; have l18 := tl_6; unfold q_r at o7 o8 o9 o10 o11 o12 o13; omega) dL_law_1225 (fun v1225 e1225 => ?_)
          refine q_cVi (pc := 1226) [.int v1202, .int v1207, .int p1221_s0, .int v1225] [] hG (c_X11_burnFirst τ σ18 a1 v1202 v1207 p1221_s0 v1225 hS18.1 tA1 r1221_s0) my_X11_burnFirst mv_X11_burnFirst w691 dL_law_1226 tA1 (by decide) rfl rfl (Nat.le_of_ble_eq_true rfl) (by decide) (fun v1226 s1226 p1226 => ?_)
          have w1226 := hS18.trans p1226.1 rfl
          refine q_pop (pc := 1229) hG dL_law_1229 rfl ?_
          refine q_aload_n (pc := 1230) hG dL_law_1230 2 rfl ?_
          refine q_aload_n (pc := 1231) hG dL_law_1231 0 rfl ?_
          refine q_iload_n (pc := 1232) hG dL_law_1232 3 rfl ?_
          refine q_iconst (pc := 1233) hG dL_law_1233 ki_1 ?_
          refine q_iadd (pc := 1234) hG dL_law_1234 (fun v1234 e1234 => ?_)
          rw [e1234.trans e1201.symm]
          refine q_sld (pc := 1235) hG hXs hbl hbA (by have o0 := e20; have o1 := (q_subN (lo := (-6)) (hi := 3066) e23 g20 rl_6 (by decide)).1; have o2 := c24; have o3 := (q_addN (lo := 1) (hi := 3067) e1201 r_3 rl_1 (by decide)).1; have o4 := (q_addN (lo := 2) (hi := 3068) e1206 r_3 rl_2 (by decide)).1; have o5 := (q_addN (lo := 3) (hi := 3069) e1211 r_3 rl_3 (by decide)).1; have o6 := (q_addN (lo := 4) (hi := 3070) e1224 r_3 rl_4 (by decide)).1; have o7 := r_3; have o8 := r_141; have o9 := r_142; have o10 := r_143; have o11 := r_144; have o12 := g20; have o13 := r_4; have l14 := tl_1; have l15 := tl_2; have l16 := tl_3; have l17 := tl_4; have l18 := tl_6; unfold q_r at o7 o8 o9 o10 o11 o12 o13; omega) dL_law_1235 (fun v1235 e1235 => ?_)
          refine q_aload_n (pc := 1236) hG dL_law_1236 0 rfl ?_
          refine q_iload_n (pc := 1237) hG dL_law_1237 3 rfl ?_
          refine q_iconst (pc := 1238) hG dL_law_1238 ki_2 ?_
          refine q_iadd (pc := 1239) hG dL_law_1239 (fun v1239 e1239 => ?_)
          rw [e1239.trans e1206.symm]
          refine q_sld (pc := 1240) hG hXs hbl hbA (by have o0 := e20; have o1 := (q_subN (lo := (-6)) (hi := 3066) e23 g20 rl_6 (by decide)).1; have o2 := c24; have o3 := (q_addN (lo := 1) (hi := 3067) e1201 r_3 rl_1 (by decide)).1; have o4 := (q_addN (lo := 2) (hi := 3068) e1206 r_3 rl_2 (by decide)).1; have o5 := (q_addN (lo := 3) (hi := 3069) e1211 r_3 rl_3 (by decide)).1; have o6 := (q_addN (lo := 4) (hi := 3070) e1224 r_3 rl_4 (by decide)).1; have o7 := r_3; have o8 := r_141; have o9 := r_142; have o10 := r_143; have o11 := r_144; have o12 := g20; have o13 := r_4; have l14 := tl_1; have l15 := tl_2; have l16 := tl_3; have l17 := tl_4; have l18 := tl_6; unfold q_r at o7 o8 o9 o10 o11 o12 o13; omega) dL_law_1240 (fun v1240 e1240 => ?_)
          refine q_aload_n (pc := 1241) hG dL_law_1241 0 rfl ?_
          refine q_iload_n (pc := 1242) hG dL_law_1242 3 rfl ?_
          refine q_iconst (pc := 1243) hG dL_law_1243 ki_3 ?_
          refine q_iadd (pc := 1244) hG dL_law_1244 (fun v1244 e1244 => ?_)
          rw [e1244.trans e1211.symm]
          refine q_sld (pc := 1245) hG hXs hbl hbA (by have o0 := e20; have o1 := (q_subN (lo := (-6)) (hi := 3066) e23 g20 rl_6 (by decide)).1; have o2 := c24; have o3 := (q_addN (lo := 1) (hi := 3067) e1201 r_3 rl_1 (by decide)).1; have o4 := (q_addN (lo := 2) (hi := 3068) e1206 r_3 rl_2 (by decide)).1; have o5 := (q_addN (lo := 3) (hi := 3069) e1211 r_3 rl_3 (by decide)).1; have o6 := (q_addN (lo := 4) (hi := 3070) e1224 r_3 rl_4 (by decide)).1; have o7 := r_3; have o8 := r_141; have o9 := r_142; have o10 := r_143; have o11 := r_144; have o12 := g20; have o13 := r_4; have l14 := tl_1; have l15 := tl_2; have l16 := tl_3; have l17 := tl_4; have l18 := tl_6; unfold q_r at o7 o8 o9 o10 o11 o12 o13; omega) dL_law_1245 (fun v1245 e1245 => ?_)
          have J1254 : ∀ (p1254_s0 : Int32), (q_r p1254_s0 0 1) → ((v1245.toInt = 0 ∧ p1254_s0.toInt = 0) ∨ (v1245.toInt ≠ 0 ∧ p1254_s0.toInt = 1)) → q_O X 118 11908 τ s1226 1254 [(0, .ref b), (1, .ref a1), (2, .ref a2), (3, .int p18_3)] [.int p1254_s0, .int v1240, .int v1235, .ref a2] := by
            intro p1254_s0 r1254_s0 iB1254
            refine q_aload_n (pc := 1254) hG dL_law_1254 0 rfl ?_
            refine q_iload_n (pc := 1255) hG dL_law_1255 3 rfl ?_
            refine q_iconst (pc := 1256) hG dL_law_1256 ki_4 ?_
            refine q_iadd (pc := 1257) hG dL_law_1257 (fun v1257 e1257 => ?_)
            rw [e1257.trans e1224.symm]
            refine q_sld (pc := 1258) hG hXs hbl hbA (by have o0 := e20; have o1 := (q_subN (lo := (-6)) (hi := 3066) e23 g20 rl_6 (by decide)).1; have o2 := c24; have o3 := (q_addN (lo := 1) (hi := 3067) e1201 r_3 rl_1 (by decide)).1; have o4 := (q_addN (lo := 2) (hi := 3068) e1206 r_3 rl_2 (by decide)).1; have o5 := (q_addN (lo := 3) (hi := 3069) e1211 r_3 rl_3 (by decide)).1; have o6 := (q_addN (lo := 4) (hi := 3070) e1224 r_3 rl_4 (by decide)).1; have o7 := r_3; have o8 := r_141; have o9 := r_142; have o10 := r_143; have o11 := r_144; have o12 := g20; have o13 := r_4; have l14 := tl_1; have l15 := tl_2; have l16 := tl_3; have l17 := tl_4; have l18 := tl_6; unfold q_r at o7 o8 o9 o10 o11 o12 o13; omega) dL_law_1258 (fun v1258 e1258 => ?_)
            refine q_cVi (pc := 1259) [.int v1235, .int v1240, .int p1254_s0, .int v1258] [] hG (c_X12_burnFirst τ s1226 a2 v1235 v1240 p1254_s0 v1258 w1226.1 tA2 r1254_s0 (q_wf.keep hS18.1 p1226.1.2 tA2 rfl iV18.1)) my_X12_burnFirst mv_X12_burnFirst w1179 dL_law_1259 tA2 (by decide) rfl rfl (Nat.le_of_ble_eq_true rfl) (by decide) (fun v1259 s1259 p1259 => ?_)
            have w1259 := w1226.trans p1259.1 rfl
            refine q_pop (pc := 1262) hG dL_law_1262 rfl ?_
            refine q_goto (pc := 1263) 1447 hG dL_law_1263 rfl ?_
            refine q_lv [0, 1, 2, 3] rfl ?_
            have ra_145 : zz_rs (fx_N s1259) c0 c1 c2 bn := (zz_rs.C (zz_rs.C iRA18 p1226.1 rfl Tc0 Tc1 Tc2 (fun j _ => p1226.1.2.arr Tbn (by decide) rfl)) p1259.1 rfl Tc0 Tc1 Tc2 (fun j _ => p1259.1.2.arr Tbn (by decide) rfl))
            have lw_146 : zi_L a1 a2 (fx_N s1259) := (zi_L.C w1226.1 tA1 tA2 p1259.1 rfl (zi_L.C hS18.1 tA1 tA2 p1226.1 rfl iLW18))
            have nw_147 : zw_L τ a1 a2 (fx_N s1259) := (zw_L.C tA1 tA2 p1259.1 rfl (zw_L.C tA1 tA2 p1226.1 rfl iNW18))
            exact J1447 s1259 KA18 KB18 DA18 DB18 EA18 EB18 TA18 TB18 w1259 ⟨(p1259.1.same tA1 rfl (p1226.1.same tA1 rfl iKA18.1)), iKA18.2⟩ ⟨(p1259.1.same tA2 rfl (p1226.1.same tA2 rfl iKB18.1)), iKB18.2⟩ (by have o0 := iKR18; have o1 := iER18; have o2 := iEA18.2; have o3 := iEB18.2; have o4 := iKA18.2; have o5 := iKB18.2; unfold q_r at o2 o3 o4 o5; omega) ⟨(p1259.1.same Tbr rfl (p1226.1.same Tbr rfl iDA18.1)), iDA18.2⟩ ⟨(p1259.1.same Tbn rfl (p1226.1.same Tbn rfl iDB18.1)), iDB18.2⟩ ⟨(p1259.1.same Tbk rfl (p1226.1.same Tbk rfl iEA18.1)), iEA18.2⟩ ⟨(p1259.1.same Tbm rfl (p1226.1.same Tbm rfl iEB18.1)), iEB18.2⟩ ⟨(p1259.1.same tA1 rfl (p1226.1.same tA1 rfl iTA18.1)), iTA18.2⟩ ⟨(p1259.1.same tA2 rfl (p1226.1.same tA2 rfl iTB18.1)), iTB18.2⟩ (by have o0 := iDR18; have o1 := iDA18.2; have o2 := iDB18.2; unfold q_r at o1 o2; omega) (by have o0 := iTR18; have o1 := iTA18.2; have o2 := iTB18.2; unfold q_r at o1 o2; omega) (by have o0 := iKR18; have o1 := iER18; have o2 := iEA18.2; have o3 := iEB18.2; have o4 := iKA18.2; have o5 := iKB18.2; unfold q_r at o2 o3 o4 o5; omega) (zz_tc.keep (zz_tc.keep iTC18 p1226.1.2 Tta Ttb rfl rfl) p1259.1.2 Tta Ttb rfl rfl) ra_145 lw_146 nw_147 (Or.imp id (fun z => zz_rs.C z p1259.1 rfl Te0 Te1 Te2 (fun j _ => p1259.1.2.arr Tbm (by decide) rfl)) (Or.imp id (fun z => zz_rs.C z p1226.1 rfl Te0 Te1 Te2 (fun j _ => p1226.1.2.arr Tbm (by decide) rfl)) iRE18)) ⟨(q_wf.keep w1226.1 p1259.1.2 tA2 rfl (q_wf.keep hS18.1 p1226.1.2 tA2 rfl iV18.1)), (q_kp.keep w1226.1 p1259.1.2 tA2 rfl (q_kp.keep hS18.1 p1226.1.2 tA2 rfl iV18.2))⟩
          refine q_if_eq (pc := 1246) hG 1253 dL_law_1246 rfl ?_ ?_
          · intro c1246
            refine q_iconst (pc := 1253) hG dL_law_1253 ki_0 ?_
            refine q_lv [0, 1, 2, 3] rfl ?_
            have r_148 := q_zeq c1246
            exact J1254 0 (q_r.mono rl_0 (by decide)) (by have o0 := (congrArg Int32.toInt (e1245.trans e1212.symm)); have o1 := c1246; have o2 := iB1221; have o3 := r1221_s0; have o4 := r_148; have l5 := tl_0; unfold q_r at o3 o4; omega)
          intro c1246
          refine q_iconst (pc := 1249) hG dL_law_1249 ki_1 ?_
          refine q_goto (pc := 1250) 1254 hG dL_law_1250 rfl ?_
          refine q_lv [0, 1, 2, 3] rfl ?_
          exact J1254 1 (q_r.mono rl_1 (by decide)) (by have o0 := (congrArg Int32.toInt (e1245.trans e1212.symm)); have o1 := c1246; have o2 := iB1221; have o3 := r1221_s0; have l4 := tl_1; unfold q_r at o3; omega)
        refine q_if_eq (pc := 1213) hG 1220 dL_law_1213 rfl ?_ ?_
        · intro c1213
          refine q_iconst (pc := 1220) hG dL_law_1220 ki_0 ?_
          refine q_lv [0, 1, 2, 3] rfl ?_
          have r_149 := q_zeq c1213
          exact J1221 0 (q_r.mono rl_0 (by decide)) (by have o0 := c1213; have o1 := r_149; have l2 := tl_0; unfold q_r at o1; omega)
        intro c1213
        refine q_iconst (pc := 1216) hG dL_law_1216 ki_1 ?_
        refine q_goto (pc := 1217) 1221 hG dL_law_1217 rfl ?_
        refine q_lv [0, 1, 2, 3] rfl ?_
        exact J1221 1 (q_r.mono rl_1 (by decide)) (by have o0 := c1213; have l1 := tl_1; omega)
      by_cases z33_28 : v32.toInt = 28
      · skip
        refine q_tsIn (pc := 33) 28 1266 hG dL_law_33 z33_28 (by decide) rfl rfl ?_
        refine q_aload_n (pc := 1266) hG dL_law_1266 1 rfl ?_
        refine q_aload_n (pc := 1267) hG dL_law_1267 0 rfl ?_
        refine q_iload_n (pc := 1268) hG dL_law_1268 3 rfl ?_
        refine q_iconst (pc := 1269) hG dL_law_1269 ki_1 ?_
        refine q_iadd (pc := 1270) hG dL_law_1270 (fun v1270 e1270 => ?_)
        have r_150 := (q_addN (lo := 1) (hi := 3067) e1270 r_3 rl_1 (by decide)).2
        refine q_sld (pc := 1271) hG hXs hbl hbA (by have o0 := e20; have o1 := (q_subN (lo := (-6)) (hi := 3066) e23 g20 rl_6 (by decide)).1; have o2 := c24; have o3 := (q_addN (lo := 1) (hi := 3067) e1270 r_3 rl_1 (by decide)).1; have o4 := r_3; have o5 := r_150; have o6 := g20; have o7 := r_4; have l8 := tl_1; have l9 := tl_6; unfold q_r at o4 o5 o6 o7; omega) dL_law_1271 (fun v1271 e1271 => ?_)
        refine q_aload_n (pc := 1272) hG dL_law_1272 0 rfl ?_
        refine q_iload_n (pc := 1273) hG dL_law_1273 3 rfl ?_
        refine q_iconst (pc := 1274) hG dL_law_1274 ki_2 ?_
        refine q_iadd (pc := 1275) hG dL_law_1275 (fun v1275 e1275 => ?_)
        have r_151 := (q_addN (lo := 2) (hi := 3068) e1275 r_3 rl_2 (by decide)).2
        refine q_sld (pc := 1276) hG hXs hbl hbA (by have o0 := e20; have o1 := (q_subN (lo := (-6)) (hi := 3066) e23 g20 rl_6 (by decide)).1; have o2 := c24; have o3 := (q_addN (lo := 1) (hi := 3067) e1270 r_3 rl_1 (by decide)).1; have o4 := (q_addN (lo := 2) (hi := 3068) e1275 r_3 rl_2 (by decide)).1; have o5 := r_3; have o6 := r_150; have o7 := r_151; have o8 := g20; have o9 := r_4; have l10 := tl_1; have l11 := tl_2; have l12 := tl_6; unfold q_r at o5 o6 o7 o8 o9; omega) dL_law_1276 (fun v1276 e1276 => ?_)
        refine q_aload_n (pc := 1277) hG dL_law_1277 0 rfl ?_
        refine q_iload_n (pc := 1278) hG dL_law_1278 3 rfl ?_
        refine q_iconst (pc := 1279) hG dL_law_1279 ki_3 ?_
        refine q_iadd (pc := 1280) hG dL_law_1280 (fun v1280 e1280 => ?_)
        have r_152 := (q_addN (lo := 3) (hi := 3069) e1280 r_3 rl_3 (by decide)).2
        refine q_sld (pc := 1281) hG hXs hbl hbA (by have o0 := e20; have o1 := (q_subN (lo := (-6)) (hi := 3066) e23 g20 rl_6 (by decide)).1; have o2 := c24; have o3 := (q_addN (lo := 1) (hi := 3067) e1270 r_3 rl_1 (by decide)).1; have o4 := (q_addN (lo := 2) (hi := 3068) e1275 r_3 rl_2 (by decide)).1; have o5 := (q_addN (lo := 3) (hi := 3069) e1280 r_3 rl_3 (by decide)).1; have o6 := r_3; have o7 := r_150; have o8 := r_151; have o9 := r_152; have o10 := g20; have o11 := r_4; have l12 := tl_1; have l13 := tl_2; have l14 := tl_3; have l15 := tl_6; unfold q_r at o6 o7 o8 o9 o10 o11; omega) dL_law_1281 (fun v1281 e1281 => ?_)
        refine q_cVi (pc := 1282) [.int v1271, .int v1276, .int v1281] [] hG (c_X11_cut τ σ18 a1 v1271 v1276 v1281 hS18.1 tA1) my_X11_cut mv_X11_cut w699 dL_law_1282 tA1 (by decide) rfl rfl (Nat.le_of_ble_eq_true rfl) (by decide) (fun v1282 s1282 p1282 => ?_)
        have w1282 := hS18.trans p1282.1 rfl
        refine q_pop (pc := 1285) hG dL_law_1285 rfl ?_
        refine q_aload_n (pc := 1286) hG dL_law_1286 2 rfl ?_
        refine q_aload_n (pc := 1287) hG dL_law_1287 0 rfl ?_
        refine q_iload_n (pc := 1288) hG dL_law_1288 3 rfl ?_
        refine q_iconst (pc := 1289) hG dL_law_1289 ki_1 ?_
        refine q_iadd (pc := 1290) hG dL_law_1290 (fun v1290 e1290 => ?_)
        rw [e1290.trans e1270.symm]
        refine q_sld (pc := 1291) hG hXs hbl hbA (by have o0 := e20; have o1 := (q_subN (lo := (-6)) (hi := 3066) e23 g20 rl_6 (by decide)).1; have o2 := c24; have o3 := (q_addN (lo := 1) (hi := 3067) e1270 r_3 rl_1 (by decide)).1; have o4 := (q_addN (lo := 2) (hi := 3068) e1275 r_3 rl_2 (by decide)).1; have o5 := (q_addN (lo := 3) (hi := 3069) e1280 r_3 rl_3 (by decide)).1; have o6 := r_3; have o7 := r_150; have o8 := r_151; have o9 := r_152; have o10 := g20; have o11 := r_4; have l12 := tl_1; have l13 := tl_2; have l14 := tl_3; have l15 := tl_6; unfold q_r at o6 o7 o8 o9 o10 o11; omega) dL_law_1291 (fun v1291 e1291 => ?_)
        refine q_aload_n (pc := 1292) hG dL_law_1292 0 rfl ?_
        refine q_iload_n (pc := 1293) hG dL_law_1293 3 rfl ?_
        refine q_iconst (pc := 1294) hG dL_law_1294 ki_2 ?_
        refine q_iadd (pc := 1295) hG dL_law_1295 (fun v1295 e1295 => ?_)
        rw [e1295.trans e1275.symm]
        refine q_sld (pc := 1296) hG hXs hbl hbA (by have o0 := e20; have o1 := (q_subN (lo := (-6)) (hi := 3066) e23 g20 rl_6 (by decide)).1; have o2 := c24; have o3 := (q_addN (lo := 1) (hi := 3067) e1270 r_3 rl_1 (by decide)).1; have o4 := (q_addN (lo := 2) (hi := 3068) e1275 r_3 rl_2 (by decide)).1; have o5 := (q_addN (lo := 3) (hi := 3069) e1280 r_3 rl_3 (by decide)).1; have o6 := r_3; have o7 := r_150; have o8 := r_151; have o9 := r_152; have o10 := g20; have o11 := r_4; have l12 := tl_1; have l13 := tl_2; have l14 := tl_3; have l15 := tl_6; unfold q_r at o6 o7 o8 o9 o10 o11; omega) dL_law_1296 (fun v1296 e1296 => ?_)
        refine q_aload_n (pc := 1297) hG dL_law_1297 0 rfl ?_
        refine q_iload_n (pc := 1298) hG dL_law_1298 3 rfl ?_
        refine q_iconst (pc := 1299) hG dL_law_1299 ki_3 ?_
        refine q_iadd (pc := 1300) hG dL_law_1300 (fun v1300 e1300 => ?_)
        rw [e1300.trans e1280.symm]
        refine q_sld (pc := 1301) hG hXs hbl hbA (by have o0 := e20; have o1 := (q_subN (lo := (-6)) (hi := 3066) e23 g20 rl_6 (by decide)).1; have o2 := c24; have o3 := (q_addN (lo := 1) (hi := 3067) e1270 r_3 rl_1 (by decide)).1; have o4 := (q_addN (lo := 2) (hi := 3068) e1275 r_3 rl_2 (by decide)).1; have o5 := (q_addN (lo := 3) (hi := 3069) e1280 r_3 rl_3 (by decide)).1; have o6 := r_3; have o7 := r_150; have o8 := r_151; have o9 := r_152; have o10 := g20; have o11 := r_4; have l12 := tl_1; have l13 := tl_2; have l14 := tl_3; have l15 := tl_6; unfold q_r at o6 o7 o8 o9 o10 o11; omega) dL_law_1301 (fun v1301 e1301 => ?_)
        refine q_cVi (pc := 1302) [.int v1291, .int v1296, .int v1301] [] hG (c_X12_cut τ s1282 a2 v1291 v1296 v1301 w1282.1 tA2 (q_wf.keep hS18.1 p1282.1.2 tA2 rfl iV18.1)) my_X12_cut mv_X12_cut w1101 dL_law_1302 tA2 (by decide) rfl rfl (Nat.le_of_ble_eq_true rfl) (by decide) (fun v1302 s1302 p1302 => ?_)
        have w1302 := w1282.trans p1302.1 rfl
        refine q_pop (pc := 1305) hG dL_law_1305 rfl ?_
        refine q_goto (pc := 1306) 1447 hG dL_law_1306 rfl ?_
        refine q_lv [0, 1, 2, 3] rfl ?_
        have ra_153 : zz_rs (fx_N s1302) c0 c1 c2 bn := (zz_rs.C (zz_rs.C iRA18 p1282.1 rfl Tc0 Tc1 Tc2 (fun j _ => p1282.1.2.arr Tbn (by decide) rfl)) p1302.1 rfl Tc0 Tc1 Tc2 (fun j _ => p1302.1.2.arr Tbn (by decide) rfl))
        have lw_154 : zi_L a1 a2 (fx_N s1302) := (zi_L.C w1282.1 tA1 tA2 p1302.1 rfl (zi_L.C hS18.1 tA1 tA2 p1282.1 rfl iLW18))
        have nw_155 : zw_L τ a1 a2 (fx_N s1302) := (zw_L.C tA1 tA2 p1302.1 rfl (zw_L.C tA1 tA2 p1282.1 rfl iNW18))
        exact J1447 s1302 KA18 KB18 DA18 DB18 EA18 EB18 TA18 TB18 w1302 ⟨(p1302.1.same tA1 rfl (p1282.1.same tA1 rfl iKA18.1)), iKA18.2⟩ ⟨(p1302.1.same tA2 rfl (p1282.1.same tA2 rfl iKB18.1)), iKB18.2⟩ (by have o0 := iKR18; have o1 := iER18; have o2 := iEA18.2; have o3 := iEB18.2; have o4 := iKA18.2; have o5 := iKB18.2; unfold q_r at o2 o3 o4 o5; omega) ⟨(p1302.1.same Tbr rfl (p1282.1.same Tbr rfl iDA18.1)), iDA18.2⟩ ⟨(p1302.1.same Tbn rfl (p1282.1.same Tbn rfl iDB18.1)), iDB18.2⟩ ⟨(p1302.1.same Tbk rfl (p1282.1.same Tbk rfl iEA18.1)), iEA18.2⟩ ⟨(p1302.1.same Tbm rfl (p1282.1.same Tbm rfl iEB18.1)), iEB18.2⟩ ⟨(p1302.1.same tA1 rfl (p1282.1.same tA1 rfl iTA18.1)), iTA18.2⟩ ⟨(p1302.1.same tA2 rfl (p1282.1.same tA2 rfl iTB18.1)), iTB18.2⟩ (by have o0 := iDR18; have o1 := iDA18.2; have o2 := iDB18.2; unfold q_r at o1 o2; omega) (by have o0 := iTR18; have o1 := iTA18.2; have o2 := iTB18.2; unfold q_r at o1 o2; omega) (by have o0 := iKR18; have o1 := iER18; have o2 := iEA18.2; have o3 := iEB18.2; have o4 := iKA18.2; have o5 := iKB18.2; unfold q_r at o2 o3 o4 o5; omega) (zz_tc.keep (zz_tc.keep iTC18 p1282.1.2 Tta Ttb rfl rfl) p1302.1.2 Tta Ttb rfl rfl) ra_153 lw_154 nw_155 (Or.imp id (fun z => zz_rs.C z p1302.1 rfl Te0 Te1 Te2 (fun j _ => p1302.1.2.arr Tbm (by decide) rfl)) (Or.imp id (fun z => zz_rs.C z p1282.1 rfl Te0 Te1 Te2 (fun j _ => p1282.1.2.arr Tbm (by decide) rfl)) iRE18)) ⟨(q_wf.keep w1282.1 p1302.1.2 tA2 rfl (q_wf.keep hS18.1 p1282.1.2 tA2 rfl iV18.1)), (q_kp.keep w1282.1 p1302.1.2 tA2 rfl (q_kp.keep hS18.1 p1282.1.2 tA2 rfl iV18.2))⟩
      by_cases z33_29 : v32.toInt = 29
      · skip
        refine q_tsIn (pc := 33) 29 1309 hG dL_law_33 z33_29 (by decide) rfl rfl ?_
        refine q_aload_n (pc := 1309) hG dL_law_1309 1 rfl ?_
        refine q_aload_n (pc := 1310) hG dL_law_1310 0 rfl ?_
        refine q_iload_n (pc := 1311) hG dL_law_1311 3 rfl ?_
        refine q_iconst (pc := 1312) hG dL_law_1312 ki_1 ?_
        refine q_iadd (pc := 1313) hG dL_law_1313 (fun v1313 e1313 => ?_)
        have r_156 := (q_addN (lo := 1) (hi := 3067) e1313 r_3 rl_1 (by decide)).2
        refine q_sld (pc := 1314) hG hXs hbl hbA (by have o0 := e20; have o1 := (q_subN (lo := (-6)) (hi := 3066) e23 g20 rl_6 (by decide)).1; have o2 := c24; have o3 := (q_addN (lo := 1) (hi := 3067) e1313 r_3 rl_1 (by decide)).1; have o4 := r_3; have o5 := r_156; have o6 := g20; have o7 := r_4; have l8 := tl_1; have l9 := tl_6; unfold q_r at o4 o5 o6 o7; omega) dL_law_1314 (fun v1314 e1314 => ?_)
        refine q_aload_n (pc := 1315) hG dL_law_1315 0 rfl ?_
        refine q_iload_n (pc := 1316) hG dL_law_1316 3 rfl ?_
        refine q_iconst (pc := 1317) hG dL_law_1317 ki_2 ?_
        refine q_iadd (pc := 1318) hG dL_law_1318 (fun v1318 e1318 => ?_)
        have r_157 := (q_addN (lo := 2) (hi := 3068) e1318 r_3 rl_2 (by decide)).2
        refine q_sld (pc := 1319) hG hXs hbl hbA (by have o0 := e20; have o1 := (q_subN (lo := (-6)) (hi := 3066) e23 g20 rl_6 (by decide)).1; have o2 := c24; have o3 := (q_addN (lo := 1) (hi := 3067) e1313 r_3 rl_1 (by decide)).1; have o4 := (q_addN (lo := 2) (hi := 3068) e1318 r_3 rl_2 (by decide)).1; have o5 := r_3; have o6 := r_156; have o7 := r_157; have o8 := g20; have o9 := r_4; have l10 := tl_1; have l11 := tl_2; have l12 := tl_6; unfold q_r at o5 o6 o7 o8 o9; omega) dL_law_1319 (fun v1319 e1319 => ?_)
        refine q_aload_n (pc := 1320) hG dL_law_1320 0 rfl ?_
        refine q_iload_n (pc := 1321) hG dL_law_1321 3 rfl ?_
        refine q_iconst (pc := 1322) hG dL_law_1322 ki_3 ?_
        refine q_iadd (pc := 1323) hG dL_law_1323 (fun v1323 e1323 => ?_)
        have r_158 := (q_addN (lo := 3) (hi := 3069) e1323 r_3 rl_3 (by decide)).2
        refine q_sld (pc := 1324) hG hXs hbl hbA (by have o0 := e20; have o1 := (q_subN (lo := (-6)) (hi := 3066) e23 g20 rl_6 (by decide)).1; have o2 := c24; have o3 := (q_addN (lo := 1) (hi := 3067) e1313 r_3 rl_1 (by decide)).1; have o4 := (q_addN (lo := 2) (hi := 3068) e1318 r_3 rl_2 (by decide)).1; have o5 := (q_addN (lo := 3) (hi := 3069) e1323 r_3 rl_3 (by decide)).1; have o6 := r_3; have o7 := r_156; have o8 := r_157; have o9 := r_158; have o10 := g20; have o11 := r_4; have l12 := tl_1; have l13 := tl_2; have l14 := tl_3; have l15 := tl_6; unfold q_r at o6 o7 o8 o9 o10 o11; omega) dL_law_1324 (fun v1324 e1324 => ?_)
        refine q_cVi (pc := 1325) [.int v1314, .int v1319, .int v1324] [] hG (c_X11_renewed τ σ18 a1 v1314 v1319 v1324 hS18.1 tA1) my_X11_renewed mv_X11_renewed w705 dL_law_1325 tA1 (by decide) rfl rfl (Nat.le_of_ble_eq_true rfl) (by decide) (fun v1325 s1325 p1325 => ?_)
        have w1325 := hS18.trans p1325.1 rfl
        refine q_pop (pc := 1328) hG dL_law_1328 rfl ?_
        refine q_aload_n (pc := 1329) hG dL_law_1329 2 rfl ?_
        refine q_aload_n (pc := 1330) hG dL_law_1330 0 rfl ?_
        refine q_iload_n (pc := 1331) hG dL_law_1331 3 rfl ?_
        refine q_iconst (pc := 1332) hG dL_law_1332 ki_1 ?_
        refine q_iadd (pc := 1333) hG dL_law_1333 (fun v1333 e1333 => ?_)
        rw [e1333.trans e1313.symm]
        refine q_sld (pc := 1334) hG hXs hbl hbA (by have o0 := e20; have o1 := (q_subN (lo := (-6)) (hi := 3066) e23 g20 rl_6 (by decide)).1; have o2 := c24; have o3 := (q_addN (lo := 1) (hi := 3067) e1313 r_3 rl_1 (by decide)).1; have o4 := (q_addN (lo := 2) (hi := 3068) e1318 r_3 rl_2 (by decide)).1; have o5 := (q_addN (lo := 3) (hi := 3069) e1323 r_3 rl_3 (by decide)).1; have o6 := r_3; have o7 := r_156; have o8 := r_157; have o9 := r_158; have o10 := g20; have o11 := r_4; have l12 := tl_1; have l13 := tl_2; have l14 := tl_3; have l15 := tl_6; unfold q_r at o6 o7 o8 o9 o10 o11; omega) dL_law_1334 (fun v1334 e1334 => ?_)
        refine q_aload_n (pc := 1335) hG dL_law_1335 0 rfl ?_
        refine q_iload_n (pc := 1336) hG dL_law_1336 3 rfl ?_
        refine q_iconst (pc := 1337) hG dL_law_1337 ki_2 ?_
        refine q_iadd (pc := 1338) hG dL_law_1338 (fun v1338 e1338 => ?_)
        rw [e1338.trans e1318.symm]
        refine q_sld (pc := 1339) hG hXs hbl hbA (by have o0 := e20; have o1 := (q_subN (lo := (-6)) (hi := 3066) e23 g20 rl_6 (by decide)).1; have o2 := c24; have o3 := (q_addN (lo := 1) (hi := 3067) e1313 r_3 rl_1 (by decide)).1; have o4 := (q_addN (lo := 2) (hi := 3068) e1318 r_3 rl_2 (by decide)).1; have o5 := (q_addN (lo := 3) (hi := 3069) e1323 r_3 rl_3 (by decide)).1; have o6 := r_3; have o7 := r_156; have o8 := r_157; have o9 := r_158; have o10 := g20; have o11 := r_4; have l12 := tl_1; have l13 := tl_2; have l14 := tl_3; have l15 := tl_6; unfold q_r at o6 o7 o8 o9 o10 o11; omega) dL_law_1339 (fun v1339 e1339 => ?_)
        refine q_aload_n (pc := 1340) hG dL_law_1340 0 rfl ?_
        refine q_iload_n (pc := 1341) hG dL_law_1341 3 rfl ?_
        refine q_iconst (pc := 1342) hG dL_law_1342 ki_3 ?_
        refine q_iadd (pc := 1343) hG dL_law_1343 (fun v1343 e1343 => ?_)
        rw [e1343.trans e1323.symm]
        refine q_sld (pc := 1344) hG hXs hbl hbA (by have o0 := e20; have o1 := (q_subN (lo := (-6)) (hi := 3066) e23 g20 rl_6 (by decide)).1; have o2 := c24; have o3 := (q_addN (lo := 1) (hi := 3067) e1313 r_3 rl_1 (by decide)).1; have o4 := (q_addN (lo := 2) (hi := 3068) e1318 r_3 rl_2 (by decide)).1; have o5 := (q_addN (lo := 3) (hi := 3069) e1323 r_3 rl_3 (by decide)).1; have o6 := r_3; have o7 := r_156; have o8 := r_157; have o9 := r_158; have o10 := g20; have o11 := r_4; have l12 := tl_1; have l13 := tl_2; have l14 := tl_3; have l15 := tl_6; unfold q_r at o6 o7 o8 o9 o10 o11; omega) dL_law_1344 (fun v1344 e1344 => ?_)
        refine q_cVi (pc := 1345) [.int v1334, .int v1339, .int v1344] [] hG (c_X12_renewed τ s1325 a2 v1334 v1339 v1344 w1325.1 tA2) my_X12_renewed mv_X12_renewed w1183 dL_law_1345 tA2 (by decide) rfl rfl (Nat.le_of_ble_eq_true rfl) (by decide) (fun v1345 s1345 p1345 => ?_)
        have w1345 := w1325.trans p1345.1 rfl
        refine q_pop (pc := 1348) hG dL_law_1348 rfl ?_
        refine q_goto (pc := 1349) 1447 hG dL_law_1349 rfl ?_
        refine q_lv [0, 1, 2, 3] rfl ?_
        have ra_159 : zz_rs (fx_N s1345) c0 c1 c2 bn := (zz_rs.C (zz_rs.C iRA18 p1325.1 rfl Tc0 Tc1 Tc2 (fun j _ => p1325.1.2.arr Tbn (by decide) rfl)) p1345.1 rfl Tc0 Tc1 Tc2 (fun j _ => p1345.1.2.arr Tbn (by decide) rfl))
        have lw_160 : zi_L a1 a2 (fx_N s1345) := (zi_L.C w1325.1 tA1 tA2 p1345.1 rfl (zi_L.C hS18.1 tA1 tA2 p1325.1 rfl iLW18))
        have nw_161 : zw_L τ a1 a2 (fx_N s1345) := (zw_L.C tA1 tA2 p1345.1 rfl (zw_L.C tA1 tA2 p1325.1 rfl iNW18))
        exact J1447 s1345 KA18 KB18 DA18 DB18 EA18 EB18 TA18 TB18 w1345 ⟨(p1345.1.same tA1 rfl (p1325.1.same tA1 rfl iKA18.1)), iKA18.2⟩ ⟨(p1345.1.same tA2 rfl (p1325.1.same tA2 rfl iKB18.1)), iKB18.2⟩ (by have o0 := iKR18; have o1 := iER18; have o2 := iEA18.2; have o3 := iEB18.2; have o4 := iKA18.2; have o5 := iKB18.2; unfold q_r at o2 o3 o4 o5; omega) ⟨(p1345.1.same Tbr rfl (p1325.1.same Tbr rfl iDA18.1)), iDA18.2⟩ ⟨(p1345.1.same Tbn rfl (p1325.1.same Tbn rfl iDB18.1)), iDB18.2⟩ ⟨(p1345.1.same Tbk rfl (p1325.1.same Tbk rfl iEA18.1)), iEA18.2⟩ ⟨(p1345.1.same Tbm rfl (p1325.1.same Tbm rfl iEB18.1)), iEB18.2⟩ ⟨(p1345.1.same tA1 rfl (p1325.1.same tA1 rfl iTA18.1)), iTA18.2⟩ ⟨(p1345.1.same tA2 rfl (p1325.1.same tA2 rfl iTB18.1)), iTB18.2⟩ (by have o0 := iDR18; have o1 := iDA18.2; have o2 := iDB18.2; unfold q_r at o1 o2; omega) (by have o0 := iTR18; have o1 := iTA18.2; have o2 := iTB18.2; unfold q_r at o1 o2; omega) (by have o0 := iKR18; have o1 := iER18; have o2 := iEA18.2; have o3 := iEB18.2; have o4 := iKA18.2; have o5 := iKB18.2; unfold q_r at o2 o3 o4 o5; omega) (zz_tc.keep (zz_tc.keep iTC18 p1325.1.2 Tta Ttb rfl rfl) p1345.1.2 Tta Ttb rfl rfl) ra_159 lw_160 nw_161 (Or.imp id (fun z => zz_rs.C z p1345.1 rfl Te0 Te1 Te2 (fun j _ => p1345.1.2.arr Tbm (by decide) rfl)) (Or.imp id (fun z => zz_rs.C z p1325.1 rfl Te0 Te1 Te2 (fun j _ => p1325.1.2.arr Tbm (by decide) rfl)) iRE18)) ⟨(q_wf.keep w1325.1 p1345.1.2 tA2 rfl (q_wf.keep hS18.1 p1325.1.2 tA2 rfl iV18.1)), (q_kp.keep w1325.1 p1345.1.2 tA2 rfl (q_kp.keep hS18.1 p1325.1.2 tA2 rfl iV18.2))⟩
      by_cases z33_30 : v32.toInt = 30
      · skip
        refine q_tsIn (pc := 33) 30 1352 hG dL_law_33 z33_30 (by decide) rfl rfl ?_
        refine q_aload_n (pc := 1352) hG dL_law_1352 1 rfl ?_
        refine q_aload_n (pc := 1353) hG dL_law_1353 0 rfl ?_
        refine q_iload_n (pc := 1354) hG dL_law_1354 3 rfl ?_
        refine q_iconst (pc := 1355) hG dL_law_1355 ki_1 ?_
        refine q_iadd (pc := 1356) hG dL_law_1356 (fun v1356 e1356 => ?_)
        have r_162 := (q_addN (lo := 1) (hi := 3067) e1356 r_3 rl_1 (by decide)).2
        refine q_sld (pc := 1357) hG hXs hbl hbA (by have o0 := e20; have o1 := (q_subN (lo := (-6)) (hi := 3066) e23 g20 rl_6 (by decide)).1; have o2 := c24; have o3 := (q_addN (lo := 1) (hi := 3067) e1356 r_3 rl_1 (by decide)).1; have o4 := r_3; have o5 := r_162; have o6 := g20; have o7 := r_4; have l8 := tl_1; have l9 := tl_6; unfold q_r at o4 o5 o6 o7; omega) dL_law_1357 (fun v1357 e1357 => ?_)
        refine q_cVi (pc := 1358) [.int v1357] [] hG (c_X11_who τ σ18 a1 v1357 hS18.1 tA1) my_X11_who mv_X11_who w720 dL_law_1358 tA1 (by decide) rfl rfl (Nat.le_of_ble_eq_true rfl) (by decide) (fun v1358 s1358 p1358 => ?_)
        have w1358 := hS18.trans p1358.1 rfl
        refine q_aload_n (pc := 1361) hG dL_law_1361 2 rfl ?_
        refine q_aload_n (pc := 1362) hG dL_law_1362 0 rfl ?_
        refine q_iload_n (pc := 1363) hG dL_law_1363 3 rfl ?_
        refine q_iconst (pc := 1364) hG dL_law_1364 ki_1 ?_
        refine q_iadd (pc := 1365) hG dL_law_1365 (fun v1365 e1365 => ?_)
        rw [e1365.trans e1356.symm]
        refine q_sld (pc := 1366) hG hXs hbl hbA (by have o0 := e20; have o1 := (q_subN (lo := (-6)) (hi := 3066) e23 g20 rl_6 (by decide)).1; have o2 := c24; have o3 := (q_addN (lo := 1) (hi := 3067) e1356 r_3 rl_1 (by decide)).1; have o4 := r_3; have o5 := r_162; have o6 := g20; have o7 := r_4; have l8 := tl_1; have l9 := tl_6; unfold q_r at o4 o5 o6 o7; omega) dL_law_1366 (fun v1366 e1366 => ?_)
        refine q_pV (pc := 1367) [.int v1366] [.int v1358] hG (c_X12_who τ s1358 a2 v1366 w1358.1 tA2) my_X12_who mv_X12_who w1197 dL_law_1367 tA2 (by decide) rfl rfl (Nat.le_of_ble_eq_true rfl) (by decide) (fun v1367 p1367 => ?_)
        have le1367 : v1358.toInt = v1367.toInt := zz_who2 hS18.1 tA1 tA2 p1358.1 rfl iNW18 p1358.2.2 p1367.2 (by have o0 := (congrArg Int32.toInt (e1366.trans e1357.symm)); omega)
        refine q_icmp_eq (pc := 1370) hG 1447 dL_law_1370 rfl ?_ ?_
        · intro c1370
          refine q_lv [0, 1, 2, 3] rfl ?_
          have ra_163 : zz_rs (fx_N s1358) c0 c1 c2 bn := (zz_rs.C iRA18 p1358.1 rfl Tc0 Tc1 Tc2 (fun j _ => p1358.1.2.arr Tbn (by decide) rfl))
          have lw_164 : zi_L a1 a2 (fx_N s1358) := (zi_L.C hS18.1 tA1 tA2 p1358.1 rfl iLW18)
          have nw_165 : zw_L τ a1 a2 (fx_N s1358) := (zw_L.C tA1 tA2 p1358.1 rfl iNW18)
          exact J1447 s1358 KA18 KB18 DA18 DB18 EA18 EB18 TA18 TB18 w1358 ⟨(p1358.1.same tA1 rfl iKA18.1), iKA18.2⟩ ⟨(p1358.1.same tA2 rfl iKB18.1), iKB18.2⟩ (by have o0 := iKR18; have o1 := iER18; have o2 := iEA18.2; have o3 := iEB18.2; have o4 := iKA18.2; have o5 := iKB18.2; unfold q_r at o2 o3 o4 o5; omega) ⟨(p1358.1.same Tbr rfl iDA18.1), iDA18.2⟩ ⟨(p1358.1.same Tbn rfl iDB18.1), iDB18.2⟩ ⟨(p1358.1.same Tbk rfl iEA18.1), iEA18.2⟩ ⟨(p1358.1.same Tbm rfl iEB18.1), iEB18.2⟩ ⟨(p1358.1.same tA1 rfl iTA18.1), iTA18.2⟩ ⟨(p1358.1.same tA2 rfl iTB18.1), iTB18.2⟩ (by have o0 := iDR18; have o1 := iDA18.2; have o2 := iDB18.2; unfold q_r at o1 o2; omega) (by have o0 := iTR18; have o1 := iTA18.2; have o2 := iTB18.2; unfold q_r at o1 o2; omega) (by have o0 := iKR18; have o1 := iER18; have o2 := iEA18.2; have o3 := iEB18.2; have o4 := iKA18.2; have o5 := iKB18.2; unfold q_r at o2 o3 o4 o5; omega) (zz_tc.keep iTC18 p1358.1.2 Tta Ttb rfl rfl) ra_163 lw_164 nw_165 (Or.imp id (fun z => zz_rs.C z p1358.1 rfl Te0 Te1 Te2 (fun j _ => p1358.1.2.arr Tbm (by decide) rfl)) iRE18) ⟨(q_wf.keep hS18.1 p1358.1.2 tA2 rfl iV18.1), (q_kp.keep hS18.1 p1358.1.2 tA2 rfl iV18.2)⟩
        intro c1370
        refine q_iconst (pc := 1373) hG dL_law_1373 ki_0 ?_
        exact False.elim (by have o0 := le1367; have o1 := c1370; have o2 := p1358.2.1; have o3 := p1367.1; unfold q_r at o2 o3; omega)
      by_cases z33_31 : v32.toInt = 31
      · skip
        refine q_tsIn (pc := 33) 31 1375 hG dL_law_33 z33_31 (by decide) rfl rfl ?_
        refine q_aload_n (pc := 1375) hG dL_law_1375 1 rfl ?_
        refine q_cVi (pc := 1376) [] [] hG (c_X11_keep τ σ18 a1 hS18.1 tA1) my_X11_keep mv_X11_keep w751 dL_law_1376 tA1 (by decide) rfl rfl (Nat.le_of_ble_eq_true rfl) (by decide) (fun v1376 s1376 p1376 => ?_)
        have w1376 := hS18.trans p1376.1 rfl
        have ra_166 : zz_rs (fx_N s1376) c0 c1 c2 bn := zz_rs.O iRA18 (p1376.2.2.2.2.2 br bk e0 e1 e2 c0 c1 c2 (hS18.same tA1 rfl hbr) (hS18.same tA1 rfl hbk) (hS18.same Tbk rfl he3.1) (hS18.same Tbk rfl he3.2.1) (hS18.same Tbk rfl he3.2.2) (hS18.same Tbr rfl hc3.1) (hS18.same Tbr rfl hc3.2.1) (hS18.same Tbr rfl hc3.2.2)).1 Tc0 Tc1 Tc2 ap1.n2 (fun j _ => p1376.1.2.arr Tbn (by decide) rfl)
        refine q_pop (pc := 1379) hG dL_law_1379 rfl ?_
        refine q_aload_n (pc := 1380) hG dL_law_1380 2 rfl ?_
        refine q_cVi (pc := 1381) [] [] hG (c_X12_keep τ s1376 a2 w1376.1 tA2) my_X12_keep mv_X12_keep w1204 dL_law_1381 tA2 (by decide) rfl rfl (Nat.le_of_ble_eq_true rfl) (by decide) (fun v1381 s1381 p1381 => ?_)
        have w1381 := w1376.trans p1381.1 rfl
        have re_167 : (1 : Int32).toInt = 0 ∨ zz_rs (fx_N s1381) e0 e1 e2 bm := Or.inr (zz_keep2 iRA18 (p1376.2.2.2.2.2 br bk e0 e1 e2 c0 c1 c2 (hS18.same tA1 rfl hbr) (hS18.same tA1 rfl hbk) (hS18.same Tbk rfl he3.1) (hS18.same Tbk rfl he3.2.1) (hS18.same Tbk rfl he3.2.2) (hS18.same Tbr rfl hc3.1) (hS18.same Tbr rfl hc3.2.1) (hS18.same Tbr rfl hc3.2.2)) (p1381.2.2.2.2.2.2 bn bm (w1376.same tA2 rfl hbn) (w1376.same tA2 rfl hbm)) ap1 p1376.1 p1381.1 rfl rfl Te0 Te1 Te2 Tbn)
        have K1381 : q_kp τ s1381 a2 := fun x b h45 hne h2 j hj => p1381.2.2.2.1 b ((p1381.1.2 a2 10 1 2 tA2 rfl).symm.trans h2) j hj
        have nw1381 : v1376.toInt = v1381.toInt ∧ zw_L τ a1 a2 (fx_N s1381) := zw_keep hS18.1 tA1 tA2 p1376.1 rfl p1381.1 rfl iNW18 (p1381.1.same tA1 rfl p1376.2.2.2.1) p1381.2.2.2.2.1 p1376.2.2.1 p1381.2.2.1
        refine q_pop (pc := 1384) hG dL_law_1384 rfl ?_
        refine q_goto (pc := 1385) 1447 hG dL_law_1385 rfl ?_
        refine q_lv [0, 1, 2, 3] rfl ?_
        have ra_168 : zz_rs (fx_N s1381) c0 c1 c2 bn := (zz_rs.C ra_166 p1381.1 rfl Tc0 Tc1 Tc2 (fun j _ => p1381.1.2.arr Tbn (by decide) rfl))
        have lw_169 : zi_L a1 a2 (fx_N s1381) := (zi_L.C w1376.1 tA1 tA2 p1381.1 rfl (zi_L.C hS18.1 tA1 tA2 p1376.1 rfl iLW18))
        exact J1447 s1381 1 1 DA18 DB18 DA18 DB18 TA18 TB18 w1381 ⟨(p1381.1.same tA1 rfl p1376.2.2.2.1), (q_r.mono rl_1 (by decide))⟩ ⟨p1381.2.2.2.2.1, (q_r.mono rl_1 (by decide))⟩ (by have l0 := tl_1; omega) ⟨(p1381.1.same Tbr rfl (((p1376.2.2.2.2.1 br bk (hS18.same tA1 rfl hbr) (hS18.same tA1 rfl hbk)).2 br ne1 Tbr).trans iDA18.1)), iDA18.2⟩ ⟨(p1381.1.same Tbn rfl (p1376.1.same Tbn rfl iDB18.1)), iDB18.2⟩ ⟨(p1381.1.same Tbk rfl ((p1376.2.2.2.2.1 br bk (hS18.same tA1 rfl hbr) (hS18.same tA1 rfl hbk)).1.trans iDA18.1)), iDA18.2⟩ ⟨((p1381.2.2.2.2.2.1 bn bm (w1376.same tA2 rfl hbn) (w1376.same tA2 rfl hbm)).trans (p1376.1.same Tbn rfl iDB18.1)), (q_r.mono iDB18.2 (by decide))⟩ ⟨(p1381.1.same tA1 rfl (p1376.1.same tA1 rfl iTA18.1)), iTA18.2⟩ ⟨(p1381.1.same tA2 rfl (p1376.1.same tA2 rfl iTB18.1)), iTB18.2⟩ (by have o0 := iDR18; have o1 := iDA18.2; have o2 := iDB18.2; unfold q_r at o1 o2; omega) (by have o0 := iTR18; have o1 := iTA18.2; have o2 := iTB18.2; unfold q_r at o1 o2; omega) (by have o0 := iDR18; have o1 := iDA18.2; have o2 := iDB18.2; have l3 := tl_1; unfold q_r at o1 o2; omega) (zz_tc.keep (zz_tc.keep iTC18 p1376.1.2 Tta Ttb rfl rfl) p1381.1.2 Tta Ttb rfl rfl) ra_168 lw_169 nw1381.2 re_167 ⟨(q_wf.keep w1376.1 p1381.1.2 tA2 rfl (q_wf.keep hS18.1 p1376.1.2 tA2 rfl iV18.1)), K1381⟩
      by_cases z33_32 : v32.toInt = 32
      · skip
        refine q_tsIn (pc := 33) 32 1388 hG dL_law_33 z33_32 (by decide) rfl rfl ?_
        refine q_aload_n (pc := 1388) hG dL_law_1388 1 rfl ?_
        refine q_cVi (pc := 1389) [] [] hG (c_X11_undo τ σ18 a1 hS18.1 tA1) my_X11_undo mv_X11_undo w755 dL_law_1389 tA1 (by decide) rfl rfl (Nat.le_of_ble_eq_true rfl) (by decide) (fun v1389 s1389 p1389 => ?_)
        have w1389 := hS18.trans p1389.1 rfl
        have hv_170 : v1389.toInt = 1 ↔ KA18.toInt ≠ 0 := (by have q := p1389.2.2.2.1 KA18 iKA18.1; exact q)
        obtain ⟨q_171v, q_171f, q_171r⟩ := (w1389.1 br 6 1 Tbr 0 (by decide)).int ff_6_0
        have hv_172 : v1389.toInt = 1 → q_171v.toInt = EA18.toInt := fun q => (zz_eqI q_171f (((p1389.2.2.2.2.1 br bk (hS18.same tA1 rfl hbr) (hS18.same tA1 rfl hbk)).1 q).trans iEA18.1))
        have hv_173 : v1389.toInt = 0 → q_171v.toInt = DA18.toInt := fun q => (zz_eqI q_171f (((p1389.2.2.2.2.1 br bk (hS18.same tA1 rfl hbr) (hS18.same tA1 rfl hbk)).2.1 q).trans iDA18.1))
        have rx_174 := zz_rxof (p1389.2.2.2.2.2 br bk c0 c1 c2 e0 e1 e2 (hS18.same tA1 rfl hbr) (hS18.same tA1 rfl hbk) (hS18.same Tbr rfl hc3.1) (hS18.same Tbr rfl hc3.2.1) (hS18.same Tbr rfl hc3.2.2) (hS18.same Tbk rfl he3.1) (hS18.same Tbk rfl he3.2.1) (hS18.same Tbk rfl he3.2.2)) (by have o0 := hv_170; have o1 := hv_172; have o2 := hv_173; have o3 := iKR18; have o4 := iDR18; have o5 := iER18; have o6 := iDA18.2; have o7 := iDB18.2; have o8 := iEA18.2; have o9 := iEB18.2; have o10 := iKA18.2; have o11 := iKB18.2; have o12 := q_171r; have o13 := p1389.2.1; unfold q_r at o6 o7 o8 o9 o10 o11 o12 o13; omega)
        have re_175 : KA18.toInt = 0 ∨ zz_rs (fx_N s1389) e0 e1 e2 bm := Or.imp id (fun z => zz_rs.O z rx_174 Te0 Te1 Te2 ap1.n1 (fun j _ => p1389.1.2.arr Tbm (by decide) rfl)) iRE18
        refine q_pop (pc := 1392) hG dL_law_1392 rfl ?_
        refine q_aload_n (pc := 1393) hG dL_law_1393 2 rfl ?_
        refine q_cVi (pc := 1394) [] [] hG (c_X12_undo τ s1389 a2 w1389.1 tA2 (q_kp.keep hS18.1 p1389.1.2 tA2 rfl iV18.2)) my_X12_undo mv_X12_undo w1208 dL_law_1394 tA2 (by decide) rfl rfl (Nat.le_of_ble_eq_true rfl) (by decide) (fun v1394 s1394 p1394 => ?_)
        have w1394 := w1389.trans p1394.1 rfl
        have hv_176 : v1394.toInt = 1 ↔ KB18.toInt ≠ 0 := (by have q := p1394.2.2.2.1 KB18 (p1389.1.same tA2 rfl iKB18.1); exact q)
        obtain ⟨q_177v, q_177f, q_177r⟩ := (w1394.1 bn 100 549 Tbn 512 (by decide)).int (lo := 8) (hi := 64) rfl
        have q_177g : s1394 bn (512 : Int32).toInt.toNat = .int q_177v := q_177f
        have hv_178 : v1394.toInt = 1 → q_177v.toInt = EB18.toInt := fun q => (zz_eqI q_177g (((p1394.2.2.2.2.1 bn bm (w1389.same tA2 rfl hbn) (w1389.same tA2 rfl hbm)).1 q).trans (p1389.1.same Tbm rfl iEB18.1)))
        have hv_179 : v1394.toInt = 0 → q_177v.toInt = DB18.toInt := fun q => (zz_eqI q_177g (((p1394.2.2.2.2.1 bn bm (w1389.same tA2 rfl hbn) (w1389.same tA2 rfl hbm)).2 q).trans (p1389.1.same Tbn rfl iDB18.1)))
        have ra_180 : zz_rs (fx_N s1394) c0 c1 c2 bn := zz_undo2 iRA18 iRE18 (p1389.2.2.2.2.2 br bk c0 c1 c2 e0 e1 e2 (hS18.same tA1 rfl hbr) (hS18.same tA1 rfl hbk) (hS18.same Tbr rfl hc3.1) (hS18.same Tbr rfl hc3.2.1) (hS18.same Tbr rfl hc3.2.2) (hS18.same Tbk rfl he3.1) (hS18.same Tbk rfl he3.2.1) (hS18.same Tbk rfl he3.2.2)) (p1394.2.2.2.2.2 bn bm (w1389.same tA2 rfl hbn) (w1389.same tA2 rfl hbm)) ap1 p1389.1 p1394.1 rfl rfl rfl Tc0 Tc1 Tc2 Tbn Tbm (by have o0 := hv_170; have o1 := hv_172; have o2 := hv_173; have o3 := hv_176; have o4 := hv_178; have o5 := hv_179; have o6 := iKR18; have o7 := iDR18; have o8 := iER18; have o9 := iDA18.2; have o10 := iDB18.2; have o11 := iEA18.2; have o12 := iEB18.2; have o13 := iKA18.2; have o14 := iKB18.2; have o15 := q_171r; have o16 := q_177r; have o17 := p1389.2.1; have o18 := p1394.2.1; unfold q_r at o9 o10 o11 o12 o13 o14 o15 o16 o17 o18; omega) (fun q => (by have o0 := iKR18; have o1 := iER18; have o2 := hv_170; have o3 := hv_172; have o4 := hv_173; have o5 := hv_176; have o6 := hv_178; have o7 := hv_179; have o8 := iDR18; have o9 := iDA18.2; have o10 := iDB18.2; have o11 := iEA18.2; have o12 := iEB18.2; have o13 := iKA18.2; have o14 := iKB18.2; have o15 := q_171r; have o16 := q_177r; have o17 := p1389.2.1; have o18 := p1394.2.1; have o19 := q; unfold q_r at o9 o10 o11 o12 o13 o14 o15 o16 o17 o18; omega))
        have nw1394 : v1389.toInt = v1394.toInt ∧ zw_L τ a1 a2 (fx_N s1394) := zw_undo hS18.1 tA1 tA2 p1389.1 rfl p1394.1 rfl iNW18 p1389.2.2.1 p1394.2.2.1
        refine q_pop (pc := 1397) hG dL_law_1397 rfl ?_
        refine q_goto (pc := 1398) 1447 hG dL_law_1398 rfl ?_
        refine q_lv [0, 1, 2, 3] rfl ?_
        have lw_181 : zi_L a1 a2 (fx_N s1394) := (zi_L.C w1389.1 tA1 tA2 p1394.1 rfl (zi_L.C hS18.1 tA1 tA2 p1389.1 rfl iLW18))
        exact J1447 s1394 KA18 KB18 q_171v q_177v EA18 EB18 TA18 TB18 w1394 ⟨(p1394.1.same tA1 rfl (p1389.1.same tA1 rfl iKA18.1)), iKA18.2⟩ ⟨(p1394.1.same tA2 rfl (p1389.1.same tA2 rfl iKB18.1)), iKB18.2⟩ (by have o0 := iKR18; have o1 := iER18; have o2 := hv_170; have o3 := hv_172; have o4 := hv_173; have o5 := hv_176; have o6 := hv_178; have o7 := hv_179; have o8 := iDR18; have o9 := iDA18.2; have o10 := iDB18.2; have o11 := iEA18.2; have o12 := iEB18.2; have o13 := iKA18.2; have o14 := iKB18.2; have o15 := q_171r; have o16 := q_177r; have o17 := p1389.2.1; have o18 := p1394.2.1; unfold q_r at o9 o10 o11 o12 o13 o14 o15 o16 o17 o18; omega) ⟨(p1394.1.same Tbr rfl q_171f), q_171r⟩ ⟨q_177g, q_177r⟩ ⟨(p1394.1.same Tbk rfl (((p1389.2.2.2.2.1 br bk (hS18.same tA1 rfl hbr) (hS18.same tA1 rfl hbk)).2.2 bk (Ne.symm ne1) Tbk).trans iEA18.1)), iEA18.2⟩ ⟨(p1394.1.same Tbm rfl (p1389.1.same Tbm rfl iEB18.1)), iEB18.2⟩ ⟨(p1394.1.same tA1 rfl (p1389.1.same tA1 rfl iTA18.1)), iTA18.2⟩ ⟨(p1394.1.same tA2 rfl (p1389.1.same tA2 rfl iTB18.1)), iTB18.2⟩ (by have o0 := hv_172; have o1 := hv_173; have o2 := hv_178; have o3 := hv_179; have o4 := iDR18; have o5 := iER18; have o6 := hv_170; have o7 := hv_176; have o8 := iKR18; have o9 := iDA18.2; have o10 := iDB18.2; have o11 := iEA18.2; have o12 := iEB18.2; have o13 := iKA18.2; have o14 := iKB18.2; have o15 := q_171r; have o16 := q_177r; have o17 := p1389.2.1; have o18 := p1394.2.1; unfold q_r at o9 o10 o11 o12 o13 o14 o15 o16 o17 o18; omega) (by have o0 := iTR18; have o1 := iTA18.2; have o2 := iTB18.2; unfold q_r at o1 o2; omega) (by have o0 := iKR18; have o1 := iER18; have o2 := hv_170; have o3 := hv_172; have o4 := hv_173; have o5 := hv_176; have o6 := hv_178; have o7 := hv_179; have o8 := iDR18; have o9 := iDA18.2; have o10 := iDB18.2; have o11 := iEA18.2; have o12 := iEB18.2; have o13 := iKA18.2; have o14 := iKB18.2; have o15 := q_171r; have o16 := q_177r; have o17 := p1389.2.1; have o18 := p1394.2.1; unfold q_r at o9 o10 o11 o12 o13 o14 o15 o16 o17 o18; omega) (zz_tc.keep (zz_tc.keep iTC18 p1389.1.2 Tta Ttb rfl rfl) p1394.1.2 Tta Ttb rfl rfl) ra_180 lw_181 nw1394.2 (Or.imp id (fun z => zz_rs.C z p1394.1 rfl Te0 Te1 Te2 (fun j _ => p1394.1.2.arr Tbm (by decide) rfl)) re_175) ⟨(q_wf.keep w1389.1 p1394.1.2 tA2 rfl (q_wf.keep hS18.1 p1389.1.2 tA2 rfl iV18.1)), (q_kp.keep w1389.1 p1394.1.2 tA2 rfl (q_kp.keep hS18.1 p1389.1.2 tA2 rfl iV18.2))⟩
      by_cases z33_33 : v32.toInt = 33
      · skip
        refine q_tsIn (pc := 33) 33 1401 hG dL_law_33 z33_33 (by decide) rfl rfl ?_
        refine q_aload_n (pc := 1401) hG dL_law_1401 1 rfl ?_
        refine q_aload_n (pc := 1402) hG dL_law_1402 0 rfl ?_
        refine q_iload_n (pc := 1403) hG dL_law_1403 3 rfl ?_
        refine q_iconst (pc := 1404) hG dL_law_1404 ki_1 ?_
        refine q_iadd (pc := 1405) hG dL_law_1405 (fun v1405 e1405 => ?_)
        have r_182 := (q_addN (lo := 1) (hi := 3067) e1405 r_3 rl_1 (by decide)).2
        refine q_sld (pc := 1406) hG hXs hbl hbA (by have o0 := e20; have o1 := (q_subN (lo := (-6)) (hi := 3066) e23 g20 rl_6 (by decide)).1; have o2 := c24; have o3 := (q_addN (lo := 1) (hi := 3067) e1405 r_3 rl_1 (by decide)).1; have o4 := r_3; have o5 := r_182; have o6 := g20; have o7 := r_4; have l8 := tl_1; have l9 := tl_6; unfold q_r at o4 o5 o6 o7; omega) dL_law_1406 (fun v1406 e1406 => ?_)
        refine q_cVi (pc := 1407) [.int v1406] [] hG (c_X11_check τ σ18 a1 v1406 hS18.1 tA1) my_X11_check mv_X11_check w759 dL_law_1407 tA1 (by decide) rfl rfl (Nat.le_of_ble_eq_true rfl) (by decide) (fun v1407 s1407 p1407 => ?_)
        have w1407 := hS18.trans p1407.1 rfl
        obtain ⟨z1407, fz1407, gz1407⟩ := (p1407.2.2 TA18 iTA18.1 br DA18 (hS18.same tA1 rfl hbr) iDA18.1)
        have rz1407 : q_r z1407 0 260 := zz_rng (w1407.1 a1 9 1 tA1 1 (by decide)) ff_9_1 fz1407
        refine q_pop (pc := 1410) hG dL_law_1410 rfl ?_
        refine q_aload_n (pc := 1411) hG dL_law_1411 2 rfl ?_
        refine q_aload_n (pc := 1412) hG dL_law_1412 0 rfl ?_
        refine q_iload_n (pc := 1413) hG dL_law_1413 3 rfl ?_
        refine q_iconst (pc := 1414) hG dL_law_1414 ki_1 ?_
        refine q_iadd (pc := 1415) hG dL_law_1415 (fun v1415 e1415 => ?_)
        rw [e1415.trans e1405.symm]
        refine q_sld (pc := 1416) hG hXs hbl hbA (by have o0 := e20; have o1 := (q_subN (lo := (-6)) (hi := 3066) e23 g20 rl_6 (by decide)).1; have o2 := c24; have o3 := (q_addN (lo := 1) (hi := 3067) e1405 r_3 rl_1 (by decide)).1; have o4 := r_3; have o5 := r_182; have o6 := g20; have o7 := r_4; have l8 := tl_1; have l9 := tl_6; unfold q_r at o4 o5 o6 o7; omega) dL_law_1416 (fun v1416 e1416 => ?_)
        refine q_cVi (pc := 1417) [.int v1416] [] hG (c_X12_check τ s1407 a2 v1416 w1407.1 tA2) my_X12_check mv_X12_check w1212 dL_law_1417 tA2 (by decide) rfl rfl (Nat.le_of_ble_eq_true rfl) (by decide) (fun v1417 s1417 p1417 => ?_)
        have w1417 := w1407.trans p1417.1 rfl
        obtain ⟨z1417, fz1417, gz1417⟩ := (p1417.2.2 TB18 (p1407.1.same tA2 rfl iTB18.1) bn DB18 (w1407.same tA2 rfl hbn) (p1407.1.same Tbn rfl iDB18.1))
        have rz1417 : q_r z1417 0 260 := zz_rng (w1417.1 a2 10 1 tA2 4 (by decide)) ff_10_4 fz1417
        refine q_pop (pc := 1420) hG dL_law_1420 rfl ?_
        refine q_goto (pc := 1421) 1447 hG dL_law_1421 rfl ?_
        refine q_lv [0, 1, 2, 3] rfl ?_
        have ra_183 : zz_rs (fx_N s1417) c0 c1 c2 bn := (zz_rs.C (zz_rs.C iRA18 p1407.1 rfl Tc0 Tc1 Tc2 (fun j _ => p1407.1.2.arr Tbn (by decide) rfl)) p1417.1 rfl Tc0 Tc1 Tc2 (fun j _ => p1417.1.2.arr Tbn (by decide) rfl))
        have lw_184 : zi_L a1 a2 (fx_N s1417) := (zi_L.C w1407.1 tA1 tA2 p1417.1 rfl (zi_L.C hS18.1 tA1 tA2 p1407.1 rfl iLW18))
        have nw_185 : zw_L τ a1 a2 (fx_N s1417) := (zw_L.C tA1 tA2 p1417.1 rfl (zw_L.C tA1 tA2 p1407.1 rfl iNW18))
        exact J1447 s1417 KA18 KB18 DA18 DB18 EA18 EB18 z1407 z1417 w1417 ⟨(p1417.1.same tA1 rfl (p1407.1.same tA1 rfl iKA18.1)), iKA18.2⟩ ⟨(p1417.1.same tA2 rfl (p1407.1.same tA2 rfl iKB18.1)), iKB18.2⟩ (by have o0 := iKR18; have o1 := iER18; have o2 := iEA18.2; have o3 := iEB18.2; have o4 := iKA18.2; have o5 := iKB18.2; unfold q_r at o2 o3 o4 o5; omega) ⟨(p1417.1.same Tbr rfl (p1407.1.same Tbr rfl iDA18.1)), iDA18.2⟩ ⟨(p1417.1.same Tbn rfl (p1407.1.same Tbn rfl iDB18.1)), iDB18.2⟩ ⟨(p1417.1.same Tbk rfl (p1407.1.same Tbk rfl iEA18.1)), iEA18.2⟩ ⟨(p1417.1.same Tbm rfl (p1407.1.same Tbm rfl iEB18.1)), iEB18.2⟩ ⟨(p1417.1.same tA1 rfl fz1407), rz1407⟩ ⟨fz1417, rz1417⟩ (by have o0 := iDR18; have o1 := gz1407; have o2 := (congrArg Int32.toInt (e1416.trans e1406.symm)); have o3 := gz1417; have o4 := iTR18; have o5 := iDA18.2; have o6 := iDB18.2; have o7 := iTA18.2; have o8 := iTB18.2; have o9 := p1407.2.1; have o10 := p1417.2.1; have o11 := rz1407; have o12 := rz1417; unfold q_r at o5 o6 o7 o8 o9 o10 o11 o12; omega) (by have o0 := gz1407; have o1 := (congrArg Int32.toInt (e1416.trans e1406.symm)); have o2 := gz1417; have o3 := iDR18; have o4 := iTR18; have o5 := iDA18.2; have o6 := iDB18.2; have o7 := iTA18.2; have o8 := iTB18.2; have o9 := p1407.2.1; have o10 := p1417.2.1; have o11 := rz1407; have o12 := rz1417; unfold q_r at o5 o6 o7 o8 o9 o10 o11 o12; omega) (by have o0 := iKR18; have o1 := iER18; have o2 := iEA18.2; have o3 := iEB18.2; have o4 := iKA18.2; have o5 := iKB18.2; unfold q_r at o2 o3 o4 o5; omega) (zz_tc.less (zz_tc.keep (zz_tc.keep iTC18 p1407.1.2 Tta Ttb rfl rfl) p1417.1.2 Tta Ttb rfl rfl) (by have o0 := iTR18; have o1 := gz1407; have o2 := (congrArg Int32.toInt (e1416.trans e1406.symm)); have o3 := gz1417; have o4 := iDR18; have o5 := iDA18.2; have o6 := iDB18.2; have o7 := iTA18.2; have o8 := iTB18.2; have o9 := p1407.2.1; have o10 := p1417.2.1; have o11 := rz1407; have o12 := rz1417; unfold q_r at o5 o6 o7 o8 o9 o10 o11 o12; omega)) ra_183 lw_184 nw_185 (Or.imp id (fun z => zz_rs.C z p1417.1 rfl Te0 Te1 Te2 (fun j _ => p1417.1.2.arr Tbm (by decide) rfl)) (Or.imp id (fun z => zz_rs.C z p1407.1 rfl Te0 Te1 Te2 (fun j _ => p1407.1.2.arr Tbm (by decide) rfl)) iRE18)) ⟨(q_wf.keep w1407.1 p1417.1.2 tA2 rfl (q_wf.keep hS18.1 p1407.1.2 tA2 rfl iV18.1)), (q_kp.keep w1407.1 p1417.1.2 tA2 rfl (q_kp.keep hS18.1 p1407.1.2 tA2 rfl iV18.2))⟩
      by_cases z33_34 : v32.toInt = 34
      · skip
        refine q_tsIn (pc := 33) 34 1424 hG dL_law_33 z33_34 (by decide) rfl rfl ?_
        refine q_aload_n (pc := 1424) hG dL_law_1424 1 rfl ?_
        refine q_aload_n (pc := 1425) hG dL_law_1425 0 rfl ?_
        refine q_iload_n (pc := 1426) hG dL_law_1426 3 rfl ?_
        refine q_iconst (pc := 1427) hG dL_law_1427 ki_1 ?_
        refine q_iadd (pc := 1428) hG dL_law_1428 (fun v1428 e1428 => ?_)
        have r_186 := (q_addN (lo := 1) (hi := 3067) e1428 r_3 rl_1 (by decide)).2
        refine q_sld (pc := 1429) hG hXs hbl hbA (by have o0 := e20; have o1 := (q_subN (lo := (-6)) (hi := 3066) e23 g20 rl_6 (by decide)).1; have o2 := c24; have o3 := (q_addN (lo := 1) (hi := 3067) e1428 r_3 rl_1 (by decide)).1; have o4 := r_3; have o5 := r_186; have o6 := g20; have o7 := r_4; have l8 := tl_1; have l9 := tl_6; unfold q_r at o4 o5 o6 o7; omega) dL_law_1429 (fun v1429 e1429 => ?_)
        refine q_pV (pc := 1430) [.int v1429] [] hG (c_X11_count τ σ18 a1 v1429 hS18.1 tA1) my_X11_count mv_X11_count w763 dL_law_1430 tA1 (by decide) rfl rfl (Nat.le_of_ble_eq_true rfl) (by decide) (fun v1430 p1430 => ?_)
        refine q_pop (pc := 1433) hG dL_law_1433 rfl ?_
        refine q_aload_n (pc := 1434) hG dL_law_1434 2 rfl ?_
        refine q_aload_n (pc := 1435) hG dL_law_1435 0 rfl ?_
        refine q_iload_n (pc := 1436) hG dL_law_1436 3 rfl ?_
        refine q_iconst (pc := 1437) hG dL_law_1437 ki_1 ?_
        refine q_iadd (pc := 1438) hG dL_law_1438 (fun v1438 e1438 => ?_)
        rw [e1438.trans e1428.symm]
        refine q_sld (pc := 1439) hG hXs hbl hbA (by have o0 := e20; have o1 := (q_subN (lo := (-6)) (hi := 3066) e23 g20 rl_6 (by decide)).1; have o2 := c24; have o3 := (q_addN (lo := 1) (hi := 3067) e1428 r_3 rl_1 (by decide)).1; have o4 := r_3; have o5 := r_186; have o6 := g20; have o7 := r_4; have l8 := tl_1; have l9 := tl_6; unfold q_r at o4 o5 o6 o7; omega) dL_law_1439 (fun v1439 e1439 => ?_)
        refine q_pV (pc := 1440) [.int v1439] [] hG (c_X12_count τ σ18 a2 v1439 hS18.1 tA2) my_X12_count mv_X12_count w1216 dL_law_1440 tA2 (by decide) rfl rfl (Nat.le_of_ble_eq_true rfl) (by decide) (fun v1440 p1440 => ?_)
        refine q_pop (pc := 1443) hG dL_law_1443 rfl ?_
        refine q_goto (pc := 1444) 1447 hG dL_law_1444 rfl ?_
        refine q_lv [0, 1, 2, 3] rfl ?_
        exact J1447 σ18 KA18 KB18 DA18 DB18 EA18 EB18 TA18 TB18 hS18 ⟨iKA18.1, iKA18.2⟩ ⟨iKB18.1, iKB18.2⟩ (by have o0 := iKR18; have o1 := iER18; have o2 := iEA18.2; have o3 := iEB18.2; have o4 := iKA18.2; have o5 := iKB18.2; unfold q_r at o2 o3 o4 o5; omega) ⟨iDA18.1, iDA18.2⟩ ⟨iDB18.1, iDB18.2⟩ ⟨iEA18.1, iEA18.2⟩ ⟨iEB18.1, iEB18.2⟩ ⟨iTA18.1, iTA18.2⟩ ⟨iTB18.1, iTB18.2⟩ (by have o0 := iDR18; have o1 := iDA18.2; have o2 := iDB18.2; unfold q_r at o1 o2; omega) (by have o0 := iTR18; have o1 := iTA18.2; have o2 := iTB18.2; unfold q_r at o1 o2; omega) (by have o0 := iKR18; have o1 := iER18; have o2 := iEA18.2; have o3 := iEB18.2; have o4 := iKA18.2; have o5 := iKB18.2; unfold q_r at o2 o3 o4 o5; omega) iTC18 iRA18 iLW18 iNW18 iRE18 ⟨iV18.1, iV18.2⟩
      have r_187 := q_andN (n := 63) e32 rfl (by decide)
      refine q_tsOut (pc := 33) 1447 hG dL_law_33 (by have q := r_187; unfold q_r at q; omega) rfl ?_
      refine q_lv [0, 1, 2, 3] rfl ?_
      exact J1447 σ18 KA18 KB18 DA18 DB18 EA18 EB18 TA18 TB18 hS18 ⟨iKA18.1, iKA18.2⟩ ⟨iKB18.1, iKB18.2⟩ (by have o0 := iKR18; have o1 := iER18; have o2 := iEA18.2; have o3 := iEB18.2; have o4 := iKA18.2; have o5 := iKB18.2; unfold q_r at o2 o3 o4 o5; omega) ⟨iDA18.1, iDA18.2⟩ ⟨iDB18.1, iDB18.2⟩ ⟨iEA18.1, iEA18.2⟩ ⟨iEB18.1, iEB18.2⟩ ⟨iTA18.1, iTA18.2⟩ ⟨iTB18.1, iTB18.2⟩ (by have o0 := iDR18; have o1 := iDA18.2; have o2 := iDB18.2; unfold q_r at o1 o2; omega) (by have o0 := iTR18; have o1 := iTA18.2; have o2 := iTB18.2; unfold q_r at o1 o2; omega) (by have o0 := iKR18; have o1 := iER18; have o2 := iEA18.2; have o3 := iEB18.2; have o4 := iKA18.2; have o5 := iKB18.2; unfold q_r at o2 o3 o4 o5; omega) iTC18 iRA18 iLW18 iNW18 iRE18 ⟨iV18.1, iV18.2⟩
  refine q_lv [1, 2, 3, 0] rfl ?_
  exact J18 _ 0 σ 0 0 16 16 EA0 EB0 0 0 (q_r.mono rl_0 (by decide)) hS0 ⟨hKA, (q_r.mono rl_0 (by decide))⟩ ⟨hKB, (q_r.mono rl_0 (by decide))⟩ (by have l0 := tl_0; omega) ⟨hDA, (q_r.mono rl_16 (by decide))⟩ ⟨hDB2, (q_r.mono rl_16 (by decide))⟩ ⟨hEA, rEA0⟩ ⟨hEB, (q_r_any EB0)⟩ ⟨hTA, (q_r.mono rl_0 (by decide))⟩ ⟨hTB, (q_r.mono rl_0 (by decide))⟩ (by have l0 := tl_16; omega) (by have l0 := tl_0; omega) (by have o0 := rEA0; have l1 := tl_0; unfold q_r at o0; omega) (fun i hi => absurd hi (by have q := tl_0; omega) : zz_tc (fx_N σ) (fx_N σ) ta tb (0 : Int32).toInt) (zz_rs.z hRA hRB) hLW hNW (Or.inl tl_0) ⟨hW, hK⟩ (Nat.lt_succ_self _)
