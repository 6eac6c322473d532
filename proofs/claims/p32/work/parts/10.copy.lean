/-! System.arraycopy from the first place of a row of ints to the first place of another one -/
def q_cp (σ : q_V) (a0 a N : Nat) : q_V := fun b => if b = a then va_cpy (σ a0) (σ a) 0 0 N else σ b
theorem q_cp_ne {σ : q_V} {a0 a N b : Nat} (h : b ≠ a) : q_cp σ a0 a N b = σ b := by simp [q_cp, h]
theorem q_cp_at {σ : q_V} {a0 a N j : Nat} (h : j < N) : q_cp σ a0 a N a j = σ a0 j := by simp [q_cp, va_cpy, h]
theorem q_cp_on {σ : q_V} {a0 a N j : Nat} (h : N ≤ j) : q_cp σ a0 a N a j = σ a j := by
  have : ¬ j < N := by omega
  simp [q_cp, va_cpy, this]
theorem q_S.copy {md : List (Nat × Nat)} {τ : q_T} {σ0 σ : q_V} {a0 a k0 k1 n0 n1 N : Nat} {l0 h0 l1 h1 : Int} (hS : q_S md τ σ0 σ) (hT0 : τ a0 = some (k0, n0)) (hT1 : τ a = some (k1, n1)) (hk0 : q_ki k0 0 l0 h0) (hk1 : q_ki k1 0 l1 h1) (hle : l1 ≤ l0 ∧ h0 ≤ h1) (hN0 : N ≤ n0) (hN1 : N ≤ n1) (hm : md.contains (k1, 0) = true) : q_S md τ σ0 (q_cp σ a0 a N) := by
  refine ⟨?_, ?_⟩
  · intro b k n hb j hj
    by_cases hba : b = a
    · subst hba
      rw [hT1] at hb
      cases hb
      rw [q_limA hk1.1] at hj
      by_cases hjN : j < N
      · rw [q_cp_at hjN]
        obtain ⟨x, e1, e2⟩ := (hS.1 a0 k0 n0 hT0 j (by rw [q_limA hk0.1]; omega)).int (hk0.2.2 j)
        rw [e1]
        exact q_vi (hk1.2.2 j) e2 hle
      · rw [q_cp_on (by omega)]
        exact hS.1 b k1 n1 hT1 j (by rw [q_limA hk1.1]; exact hj)
    · rw [q_cp_ne hba]
      exact hS.1 b k n hb j hj
  · intro b k n j hb hc
    by_cases hba : b = a
    · subst hba
      rw [hT1] at hb
      cases hb
      have hz : ¬ k1 < 100 := by have := hk1.1; omega
      rw [if_neg hz, hm] at hc
      cases hc
    · rw [q_cp_ne hba]
      exact hS.2 b k n j hb hc
section Copy
variable {X : q_X} {cc : ByteArray} {own : String} {nL : Nat} {ret : Option FieldType} {fr lo mc ms cells slots pc : Nat} {τ : q_T} {σ σ0 : q_V} {lv : List (Nat × Value)} {rest : List Value} {md : List (Nat × Nat)}
theorem q_copy {idx a0 a k0 k1 n0 n1 : Nat} {n : Int32} {l0 h0 l1 h1 : Int} (N : Nat) (hG : q_G X cc own nL ret fr lo mc ms) (hw : Cond.methodLink own idx arraycopyName ∈ q_tbl) (hwn : Cond.native arraycopyName ∈ q_tbl) (hws : Cond.static arraycopyName ∈ q_tbl) (hwi : Cond.initialized "java/lang/System" ∈ q_tbl) (hd : decode cc pc = .ok (.invokestatic idx, 3)) (hS : q_S md τ σ0 σ) (hT0 : τ a0 = some (k0, n0)) (hT1 : τ a = some (k1, n1)) (hk0 : q_ki k0 0 l0 h0) (hk1 : q_ki k1 0 l1 h1) (hle : l1 ≤ l0 ∧ h0 ≤ h1) (hn : n.toInt = N) (hN : N ≤ n0 ∧ N ≤ n1) (hm : md.contains (k1, 0) = true) (hr : 1 ≤ fr ∧ 26 ≤ lo) (hst : (rest.map fun v => v.category).sum ≤ 8)
    (kk : ∀ σ1 : q_V, σ1 = q_cp σ a0 a N → q_S md τ σ0 σ1 → q_O X cells slots τ σ1 (pc + 3) lv rest) : q_O X cells slots τ σ pc lv (.int n :: .int 0 :: .ref a :: .int 0 :: .ref a0 :: rest) := by
  have hS1 := hS.copy hT0 hT1 hk0 hk1 hle hN.1 hN.2 hm
  have kk := kk _ rfl hS1
  obtain ⟨p, l, e, R, s, m, args, below, meth, c, Q, A, D⟩ := X
  obtain ⟨hx, hb, hre, hml, hown, hts, hK, hlk, hA, hR⟩ := hG
  intro H locs ls g1 g2 g3
  have hc0 := q_atArr g1 hT0 hk0.1
  have hc1 := q_atArr g1 hT1 hk1.1
  rw [hk0.2.1] at hc0
  rw [hk1.2.1] at hc1
  have hnn : ¬ n < 0 := fun q => by have := Int32.lt_iff_toInt_lt.mp q; rw [Int32.toInt_zero] at this; omega
  have hnc : n.toNatClampNeg = N := by rw [q_clamp, hn]; omega
  have h00 : (0 : Int32).toNatClampNeg = 0 := rfl
  intro T hT XX
  obtain ⟨-, kc, hkc, cm, hkk⟩ := (q_arrK hK 0 (by decide)) n0 (σ a0)
  obtain ⟨vm', X', step⟩ := XX.arraycopy hx hown (hts _ hw) (hts _ hwn) (hts _ hws) (hts _ hwi) (src := a0) (dst := a) (cs := arrV (D.2 0) n0 (σ a0)) (cd := arrV (D.2 0) n1 (σ a)) (srcPos := 0) (destPos := 0) (n := n) (by rw [hT]; exact hc0) (by rw [hT]; exact hc1)
    (fun _ h => by cases h) (fun _ h => by cases h) (fun h => by cases h) (fun h => by cases h) hkc hkc hkk hkk (by rfl) (by decide) (by decide) hnn
    (by rw [arrV_size, Int32.toInt_zero, hn]; omega)
    (by rw [arrV_size, Int32.toInt_zero, hn]; omega)
    (fun vm₁ _ i hi => by
      rw [hnc] at hi
      obtain ⟨x, e1, -⟩ := (hS.1 a0 k0 n0 hT0 i (by rw [q_limA hk0.1]; omega)).int (hk0.2.2 i)
      have e : (arrV (D.2 0) n0 (σ a0)).slots.getD ((0 : Int32).toNatClampNeg + i) .null = .int x := by
        rw [h00, Nat.zero_add, Array.getD_eq_getD_getElem?, arrV_read _ _ (by omega), e1]
        rfl
      rw [e]
      exact ⟨rfl, trivial⟩)
    (g := F0 m pc ls (.int n :: .int 0 :: .ref a :: .int 0 :: .ref a0 :: rest)) rfl g3.1 (rest := rest) rfl (by rw [hb]; exact hd) (by rw [hR]; exact hr.1) (by rw [hR]; show 2 * 0 + _ + (7 + 11) ≤ lo; omega)
  have e1 : copied (arrV (D.2 0) n0 (σ a0)) (arrV (D.2 0) n1 (σ a)) 0 0 n = arrV (D.2 0) n1 (va_cpy (σ a0) (σ a) 0 0 N) := by
    have := va_copied (fun z : Value => z) (D.2 0) (D.2 0) (n0 := n0) (n1 := n1) (sp := (0 : Int32).toNatClampNeg) (dp := (0 : Int32).toNatClampNeg) (n := n.toNatClampNeg) (σ a0) (σ a) (by rw [hnc, h00]; omega)
    rw [hnc, h00] at this
    have e0 : copied (arrV (D.2 0) n0 (σ a0)) (arrV (D.2 0) n1 (σ a)) 0 0 n = (arrV (D.2 0) n1 (σ a)).storeRun (0 : Int32).toNatClampNeg ((arrV (D.2 0) n0 (σ a0)).stretch (0 : Int32).toNatClampNeg n.toNatClampNeg) := rfl
    rw [e0, hnc, h00]
    exact this
  rw [e1] at X' step
  have hl : a < H.size := (Array.getElem?_eq_some_iff.mp hc1).1
  have oq : ∀ q : Nat, q ≠ a → (H.setIfInBounds a (arrV (D.2 0) n1 (va_cpy (σ a0) (σ a) 0 0 N)))[q]? = H[q]? := fun q hq => by simp [Array.getElem?_setIfInBounds, Ne.symm hq]
  have hAa : A a := (g1 a k1 n1 hT1).1
  obtain ⟨t, a1, b1⟩ := kk (H.setIfInBounds a (arrV (D.2 0) n1 (va_cpy (σ a0) (σ a) 0 0 N))) _ ls
    (g1.set hT1 (Or.inr ⟨hk1.1, by
      rw [hk1.2.1, show q_cp σ a0 a N a = va_cpy (σ a0) (σ a) 0 0 N by simp [q_cp]]
      simp [Array.getElem?_setIfInBounds, hl]⟩) oq (fun b hb => q_cp_ne hb))
    ⟨by simp; exact g2.1, fun q q1 q2 => by
      rw [oq q (fun e => q2 (by rw [e]; exact hAa))]
      exact g2.2.1 q q1 q2, fun q hq => by
      rcases List.mem_append.mp hq with h | h
      · exact g2.2.2 q h
      · obtain ⟨z, -, rfl⟩ := List.mem_map.mp h
        exact hAa⟩ g3 _ (by show ((T.setVm vm').setCell a _).heap = _; rw [← hT]; rfl) X'
  exact ⟨t, step t a1, b1⟩
end Copy
theorem q_cpK {τ : q_T} {σ : q_V} {a b c k n k2 n2 N i : Nat} (hA : τ a = some (k, n)) (hB : τ b = some (k2, n2)) (hk : k ≠ k2) : q_cp σ c b N a i = σ a i := by
  have h : a ≠ b := fun e => by
    rw [e, hB] at hA
    cases hA
    exact hk rfl
  rw [q_cp_ne h]
/-- the first places of a row are numbers from 0 to 63 -/
def q_ct (σ : q_V) (b : Nat) (x : Int32) : Prop := ∀ j : Nat, (j : Int) < x.toInt → ∃ y : Int32, σ b j = .int y ∧ q_r y 0 63
theorem q_ct.at {σ : q_V} {b : Nat} {x i v : Int32} (h : q_ct σ b x) (hi : 0 ≤ i.toInt ∧ i.toInt < x.toInt) (hf : σ b i.toInt.toNat = .int v) : q_r v 0 63 := by
  obtain ⟨y, h1, h2⟩ := h i.toInt.toNat (by omega)
  rw [hf] at h1
  cases h1
  exact h2
theorem q_ct.one {σ : q_V} {b : Nat} (h : σ b (0 : Int32).toInt.toNat = .int 0) : q_ct σ b 1 := by
  intro j hj
  have : j = 0 := by rw [show (1 : Int32).toInt = 1 from rfl] at hj; omega
  subst this
  exact ⟨0, h, by decide, by decide⟩
theorem q_ct.more {σ σ1 : q_V} {b : Nat} {x x2 v : Int32} (h : q_ct σ b x) (u : σ1 = q_up σ b x.toInt.toNat (.int v)) (hv : q_r v 0 63) (hx : 0 ≤ x.toInt) (e : x2.toInt = x.toInt + 1) : q_ct σ1 b x2 := by
  intro j hj
  rw [u]
  by_cases hjx : j = x.toInt.toNat
  · rw [hjx]
    exact ⟨v, q_up_same, hv⟩
  · rw [q_up_slot hjx]
    exact h j (by omega)
/-! more rows for the reference -/
theorem q_npaint {i : Int32} {a b : Int} (h : q_r i a b) (hd : 520 ≤ a ∧ b ≤ 521) : q_f 100 i.toInt.toNat = (3, -2, 63) := by
  unfold q_r at h
  rcases (show i.toInt.toNat = 520 ∨ i.toInt.toNat = 521 by omega) with e | e <;> rw [e] <;> rfl
theorem q_bast {X : q_X} {cc : ByteArray} {own : String} {nL : Nat} {ret : Option FieldType} {fr lo mc ms cells slots pc : Nat} {τ : q_T} {σ σ0 : q_V} {lv : List (Nat × Value)} {st : List Value} {md : List (Nat × Nat)} {a k n : Nat} {i x : Int32} (hG : q_G X cc own nL ret fr lo mc ms) (hd : decode cc pc = .ok (.bastore, 1)) (hS : q_S md τ σ0 σ) (hA : q_ki k 2 (-128) 127) (hT : τ a = some (k, n)) (hi : 0 ≤ i.toInt ∧ i.toInt < n) (hm : md.contains (k, 0) = true)
    (kk : ∀ σ1 : q_V, σ1 = q_up σ a i.toInt.toNat (.int x.toInt8.toInt32) → q_S md τ σ0 σ1 → q_O X cells slots τ σ1 (pc + 1) lv st) : q_O X cells slots τ σ pc lv (.int x :: .int i :: .ref a :: st) :=
  q_bastV hG hd hT hA.1 hA.2.1 hi (kk _ rfl (hS.put hT (q_mdA hA.1 hm) (fun _ => q_vi (hA.2.2 _) (q_i2bN rfl) ⟨Int.le_refl _, Int.le_refl _⟩)))
theorem q_F.arr {md : List (Nat × Nat)} {τ : q_T} {σ σ1 : q_V} {b k n j : Nat} (hF : q_F md τ σ σ1) (hT : τ b = some (k, n)) (hk : 100 ≤ k) (hm : md.contains (k, 0) = false) : σ1 b j = σ b j := hF b k n j hT (by rw [if_neg (by omega)]; exact hm)
/-- codes from f on, up to t: at each place the row of numbers that are at hand is deep enough, and what leads on leads ahead -/
def q_seg (σ : q_V) (b f t : Nat) : Prop := ∃ d : Nat → Nat, d f = 0 ∧ ∀ k : Nat, f ≤ k → k < t → ∃ c : Int32, σ b k = .int c ∧ 0 ≤ c.toInt ∧ d k ≤ k ∧
  ((c.toInt / 1048576 = 0 ∧ d (k + 1) = d k + 1) ∨ (c.toInt / 1048576 = 1 ∧ c.toInt % 1048576 ≤ 8 ∧ d (k + 1) = d k + 1) ∨ (c.toInt / 1048576 = 10 ∧ 1 ≤ d k ∧ d (k + 1) = d k) ∨
   ((c.toInt / 1048576 = 11 ∨ c.toInt / 1048576 = 12) ∧ 1 ≤ d k ∧ d (k + 1) = d k - 1 ∧ (k : Int) < c.toInt % 1048576 ∧ c.toInt % 1048576 ≤ (t : Int) ∧ d (c.toInt % 1048576).toNat = d k) ∨
   (2 ≤ c.toInt / 1048576 ∧ c.toInt / 1048576 ≤ 9 ∧ 2 ≤ d k ∧ d (k + 1) = d k - 1))
/-- the reference's law in force: each clause's two stretches of codes can be reckoned -/
def q_wf (σ : q_V) (a : Nat) : Prop := ∃ (bc bf bh bt : Nat) (nc : Int32), σ a 21 = .ref bc ∧ σ a 23 = .ref bf ∧ σ a 24 = .ref bh ∧ σ a 25 = .ref bt ∧ σ a 13 = .int nc ∧
  ∀ q : Nat, (q : Int) < nc.toInt → ∃ f h t : Int32, σ bf q = .int f ∧ σ bh q = .int h ∧ σ bt q = .int t ∧ 0 ≤ f.toInt ∧ f.toInt ≤ h.toInt ∧ h.toInt ≤ t.toInt ∧ t.toInt ≤ 260 ∧ q_seg σ bc f.toInt.toNat h.toInt.toNat ∧ q_seg σ bc h.toInt.toNat t.toInt.toNat
theorem q_wf.keep {md : List (Nat × Nat)} {τ : q_T} {σ σ1 : q_V} {a : Nat} (hI : q_I τ σ) (hF : q_F md τ σ σ1) (hT : τ a = some (10, 1)) (hm : [(10, 13), (10, 21), (10, 23), (10, 24), (10, 25), (156, 0), (158, 0), (159, 0), (160, 0)].all (fun q => !md.contains q) = true) (h : q_wf σ a) : q_wf σ1 a := by
  obtain ⟨bc, bf, bh, bt, nc, e1, e2, e3, e4, e5, e6⟩ := h
  have hn : ∀ q, q ∈ [(10, 13), (10, 21), (10, 23), (10, 24), (10, 25), (156, 0), (158, 0), (159, 0), (160, 0)] → md.contains q = false := fun q hq => by
    have := List.all_eq_true.mp hm q hq
    simpa using this
  have tc : τ bc = some (156, 260) := by
    obtain ⟨b, h1, h2⟩ := (hI a 10 1 hT 21 (by decide)).ref (k := 156) (n := 260) rfl
    rw [e1] at h1; cases h1; exact h2
  have tf : τ bf = some (158, 16) := by
    obtain ⟨b, h1, h2⟩ := (hI a 10 1 hT 23 (by decide)).ref (k := 158) (n := 16) rfl
    rw [e2] at h1; cases h1; exact h2
  have th : τ bh = some (159, 16) := by
    obtain ⟨b, h1, h2⟩ := (hI a 10 1 hT 24 (by decide)).ref (k := 159) (n := 16) rfl
    rw [e3] at h1; cases h1; exact h2
  have tt : τ bt = some (160, 16) := by
    obtain ⟨b, h1, h2⟩ := (hI a 10 1 hT 25 (by decide)).ref (k := 160) (n := 16) rfl
    rw [e4] at h1; cases h1; exact h2
  have kc : ∀ j, σ1 bc j = σ bc j := fun j => hF.arr tc (by decide) (hn _ (by decide))
  have hseg : ∀ f t, q_seg σ bc f t → q_seg σ1 bc f t := by
    intro f t ⟨d, h0, hd⟩
    refine ⟨d, h0, fun k k1 k2 => ?_⟩
    obtain ⟨c, c1, c2⟩ := hd k k1 k2
    exact ⟨c, by rw [kc]; exact c1, c2⟩
  refine ⟨bc, bf, bh, bt, nc, ?_, ?_, ?_, ?_, ?_, fun q hq => ?_⟩
  · rw [hF a 10 1 21 hT (hn _ (by decide))]; exact e1
  · rw [hF a 10 1 23 hT (hn _ (by decide))]; exact e2
  · rw [hF a 10 1 24 hT (hn _ (by decide))]; exact e3
  · rw [hF a 10 1 25 hT (hn _ (by decide))]; exact e4
  · rw [hF a 10 1 13 hT (hn _ (by decide))]; exact e5
  · obtain ⟨f, h, t, g1, g2, g3, g4, g5, g6, g7, g8, g9⟩ := e6 q hq
    exact ⟨f, h, t, by rw [hF.arr tf (by decide) (hn _ (by decide))]; exact g1, by rw [hF.arr th (by decide) (hn _ (by decide))]; exact g2, by rw [hF.arr tt (by decide) (hn _ (by decide))]; exact g3, g4, g5, g6, g7, hseg _ _ g8, hseg _ _ g9⟩
theorem q_remL {x y z : Int32} {a b c d : Int} (e : z = x - x / y * y) (hx : q_r x a b) (hy : q_r y c d) (h : 0 ≤ a ∧ 1 ≤ c) : z.toInt < y.toInt := by
  have h1 := (q_remP e hx hy h).1
  have h2 : 0 < y.toInt := by unfold q_r at hy; omega
  rw [h1]
  exact Int.emod_lt_of_pos _ h2
theorem q_blN {x y r : Int32} {a b c d : Int} (h : x.toInt ≤ y.toInt → x.toInt ≤ r.toInt ∧ r.toInt ≤ y.toInt) (hx : q_r x a b) (hy : q_r y c d) (hd : b ≤ c) : q_r r a d := by
  unfold q_r at *
  have := h (by omega)
  omega
