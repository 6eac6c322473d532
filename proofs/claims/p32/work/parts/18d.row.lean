/-! THE TEXT OF A ROW: both readers go through it alike -/
def zz_pk (T : Nat → Int) (n p : Int) : Int := if p < n then T p.toNat else -1
def zz_ft (k p : Int) : Int := fx_b_sub (fx_b_mul (-1000) k) p
/-- two cells apart all is as it was -/
def zz_fm (q V1 : Nat) (B u : fx_U) : Prop := ∀ b : Nat, b ≠ q → b ≠ V1 → ∀ i : Nat, u b i = B b i
theorem zz_fm.p1 {q V1 j : Nat} {B u : fx_U} {x : Int} (h : zz_fm q V1 B u) : zz_fm q V1 B (fx_pt u q j x) := fun b hb hv i => by
  rw [zz_pa hb]
  exact h b hb hv i
theorem zz_fm.p2 {q V1 j : Nat} {B u : fx_U} {x : Int} (h : zz_fm q V1 B u) : zz_fm q V1 B (fx_pt u V1 j x) := fun b hb hv i => by
  rw [zz_pa hv]
  exact h b hb hv i
/-- the class's reader: its cells, its text, where it is, how many are filled -/
def zz_C (T : Nat → Int) (q V1 ta : Nat) (B : fx_U) (n p m : Int) (u : fx_U) : Prop := (u q 0 = (V1 : Int) ∧ u q 1 = (ta : Int) ∧ u q 2 = n) ∧ u q 3 = p ∧ u q 4 = m ∧ (∀ i : Nat, (i : Int) < n → u ta i = T i) ∧ zz_fm q V1 B u
/-- the reference's -/
def zz_D (T : Nat → Int) (a2 tb NV bn : Nat) (B : fx_U) (n d p m : Int) (v : fx_U) : Prop := (v a2 0 = (bn : Int) ∧ v a2 3 = (tb : Int) ∧ v a2 26 = (NV : Int) ∧ v a2 6 = n ∧ v bn 512 = d) ∧ v a2 5 = p ∧ v a2 14 = m ∧ (∀ i : Nat, (i : Int) < n → fx_b_and (v tb i) 255 = T i) ∧ zz_fm a2 NV B v
section Row
variable {T : Nat → Int} {q V1 ta a2 tb NV bn : Nat} {n d p m : Int} {u v B1 B2 : fx_U}
theorem zz_C.pt {j : Nat} {x : Int} (h : zz_C T q V1 ta B1 n p m u) (k1 : ta ≠ q) (hj : j = 5 ∨ 6 ≤ j) : zz_C T q V1 ta B1 n p m (fx_pt u q j x) := by
  obtain ⟨⟨h1, h2, h3⟩, h4, h5, h6, h7⟩ := h
  refine ⟨⟨?_, ?_, ?_⟩, ?_, ?_, fun i hi => ?_, h7.p1⟩
  · rw [zz_pj (by omega)]; exact h1
  · rw [zz_pj (by omega)]; exact h2
  · rw [zz_pj (by omega)]; exact h3
  · rw [zz_pj (by omega)]; exact h4
  · rw [zz_pj (by omega)]; exact h5
  · rw [zz_pa k1]; exact h6 i hi
theorem zz_C.at {p2 : Int} (h : zz_C T q V1 ta B1 n p m u) (k1 : ta ≠ q) : zz_C T q V1 ta B1 n p2 m (fx_pt u q 3 p2) := by
  obtain ⟨⟨h1, h2, h3⟩, h4, h5, h6, h7⟩ := h
  refine ⟨⟨?_, ?_, ?_⟩, zz_ps, ?_, fun i hi => ?_, h7.p1⟩
  · rw [zz_pj (by omega)]; exact h1
  · rw [zz_pj (by omega)]; exact h2
  · rw [zz_pj (by omega)]; exact h3
  · rw [zz_pj (by omega)]; exact h5
  · rw [zz_pa k1]; exact h6 i hi
theorem zz_C.more {x : Int} {j : Nat} (h : zz_C T q V1 ta B1 n p m u) (k1 : ta ≠ q) (k2 : V1 ≠ q) (k3 : ta ≠ V1) : zz_C T q V1 ta B1 n p (m + 1) (fx_pt (fx_pt u V1 j x) q 4 (m + 1)) := by
  obtain ⟨⟨h1, h2, h3⟩, h4, h5, h6, h7⟩ := h
  refine ⟨⟨?_, ?_, ?_⟩, ?_, zz_ps, fun i hi => ?_, h7.p2.p1⟩
  · rw [zz_pj (by omega), zz_pa (Ne.symm k2)]; exact h1
  · rw [zz_pj (by omega), zz_pa (Ne.symm k2)]; exact h2
  · rw [zz_pj (by omega), zz_pa (Ne.symm k2)]; exact h3
  · rw [zz_pj (by omega), zz_pa (Ne.symm k2)]; exact h4
  · rw [zz_pa k1, zz_pa k3]; exact h6 i hi
theorem zz_D.pt {j : Nat} {x : Int} (h : zz_D T a2 tb NV bn B2 n d p m v) (k1 : tb ≠ a2) (k2 : bn ≠ a2) (hj : j = 7 ∨ j = 8 ∨ j = 4) : zz_D T a2 tb NV bn B2 n d p m (fx_pt v a2 j x) := by
  obtain ⟨⟨h1, h2, h3, h4, h5⟩, h6, h7, h8, h9⟩ := h
  refine ⟨⟨?_, ?_, ?_, ?_, ?_⟩, ?_, ?_, fun i hi => ?_, h9.p1⟩
  · rw [zz_pj (by omega)]; exact h1
  · rw [zz_pj (by omega)]; exact h2
  · rw [zz_pj (by omega)]; exact h3
  · rw [zz_pj (by omega)]; exact h4
  · rw [zz_pa k2]; exact h5
  · rw [zz_pj (by omega)]; exact h6
  · rw [zz_pj (by omega)]; exact h7
  · rw [zz_pa k1]; exact h8 i hi
theorem zz_D.at {p2 : Int} (h : zz_D T a2 tb NV bn B2 n d p m v) (k1 : tb ≠ a2) (k2 : bn ≠ a2) : zz_D T a2 tb NV bn B2 n d p2 m (fx_pt v a2 5 p2) := by
  obtain ⟨⟨h1, h2, h3, h4, h5⟩, h6, h7, h8, h9⟩ := h
  refine ⟨⟨?_, ?_, ?_, ?_, ?_⟩, zz_ps, ?_, fun i hi => ?_, h9.p1⟩
  · rw [zz_pj (by omega)]; exact h1
  · rw [zz_pj (by omega)]; exact h2
  · rw [zz_pj (by omega)]; exact h3
  · rw [zz_pj (by omega)]; exact h4
  · rw [zz_pa k2]; exact h5
  · rw [zz_pj (by omega)]; exact h7
  · rw [zz_pa k1]; exact h8 i hi
theorem zz_D.nv {j : Nat} {x : Int} (h : zz_D T a2 tb NV bn B2 n d p m v) (k3 : NV ≠ a2) (k4 : tb ≠ NV) (k5 : bn ≠ NV) : zz_D T a2 tb NV bn B2 n d p m (fx_pt v NV j x) := by
  obtain ⟨⟨h1, h2, h3, h4, h5⟩, h6, h7, h8, h9⟩ := h
  refine ⟨⟨?_, ?_, ?_, ?_, ?_⟩, ?_, ?_, fun i hi => ?_, h9.p2⟩
  · rw [zz_pa (Ne.symm k3)]; exact h1
  · rw [zz_pa (Ne.symm k3)]; exact h2
  · rw [zz_pa (Ne.symm k3)]; exact h3
  · rw [zz_pa (Ne.symm k3)]; exact h4
  · rw [zz_pa k5]; exact h5
  · rw [zz_pa (Ne.symm k3)]; exact h6
  · rw [zz_pa (Ne.symm k3)]; exact h7
  · rw [zz_pa k4]; exact h8 i hi
theorem zz_D.many {m2 : Int} (h : zz_D T a2 tb NV bn B2 n d p m v) (k1 : tb ≠ a2) (k2 : bn ≠ a2) : zz_D T a2 tb NV bn B2 n d p m2 (fx_pt v a2 14 m2) := by
  obtain ⟨⟨h1, h2, h3, h4, h5⟩, h6, h7, h8, h9⟩ := h
  refine ⟨⟨?_, ?_, ?_, ?_, ?_⟩, ?_, zz_ps, fun i hi => ?_, h9.p1⟩
  · rw [zz_pj (by omega)]; exact h1
  · rw [zz_pj (by omega)]; exact h2
  · rw [zz_pj (by omega)]; exact h3
  · rw [zz_pj (by omega)]; exact h4
  · rw [zz_pa k2]; exact h5
  · rw [zz_pj (by omega)]; exact h6
  · rw [zz_pa k1]; exact h8 i hi
theorem zz_peek (h : zz_C T q V1 ta B1 n p m u) (h0 : 0 ≤ p) : f_X8_peek u q = zz_pk T n p := by
  obtain ⟨⟨h1, h2, h3⟩, h4, h5, h6, h7⟩ := h
  unfold f_X8_peek zz_pk
  simp only [fz_lt, fz_lr, h2, h3, h4, Int.toNat_natCast]
  rw [if_neg (by omega)]
  by_cases k : p < n
  · rw [if_pos k, if_pos k]
    exact h6 p.toNat (by omega)
  · rw [if_neg k, if_neg k]
theorem zz_here (h : zz_D T a2 tb NV bn B2 n d p m v) (h0 : 0 ≤ p) : f_X12_here v a2 = zz_pk T n p := by
  obtain ⟨⟨h1, h2, h3, h4, h5⟩, h6, h7, h8, h9⟩ := h
  unfold f_X12_here zz_pk
  simp only [fz_lt, fz_lr, h2, h4, h6, Int.toNat_natCast]
  by_cases k : p < n
  · rw [if_pos k, if_pos k]
    exact h8 p.toNat (by omega)
  · rw [if_neg k, if_neg k]
theorem zz_digit (h : zz_D T a2 tb NV bn B2 n d p m v) (h0 : 0 ≤ p) : f_X12_isDigit v a2 = if 48 ≤ zz_pk T n p ∧ zz_pk T n p ≤ 57 then 1 else 0 := by
  unfold f_X12_isDigit
  simp only [fz_lt, zz_here h h0]
  by_cases k1 : zz_pk T n p < 48
  · rw [if_pos k1, if_neg (by omega)]
  · by_cases k2 : 57 < zz_pk T n p
    · rw [if_neg k1, if_pos k2, if_neg (by omega)]
    · rw [if_neg k1, if_neg k2, if_pos (by omega)]
theorem zz_pk_lt (h : zz_pk T n p ≠ -1) : p < n := by
  by_cases k : p < n
  · exact k
  · unfold zz_pk at h
    rw [if_neg k] at h
    exact absurd rfl h
/-- one digit on, in the class -/
theorem zz_rnC (h : zz_C T q V1 ta B1 n p m u) (h0 : 0 ≤ p) (hp : p ≤ 1000) (f : Nat) {x k : Int} (hk : k < 2) (hx : -1 ≤ x ∧ x ≤ 99) : kL_X8_readNumber_4 q (f + 1) x k u = if 48 ≤ zz_pk T n p ∧ zz_pk T n p ≤ 57 then kL_X8_readNumber_4 q f (max 0 x * 10 + zz_pk T n p - 48) (k + 1) (fx_pt u q 3 (p + 1)) else (x, u) := by
  have eK : kL_X8_readNumber_4 q (f + 1) x k u = kB_X8_readNumber_4 (kL_X8_readNumber_4 q f) q x k u := rfl
  rw [eK]
  unfold kB_X8_readNumber_4
  rw [if_pos hk]
  simp only [fz_lt, fz_ls, zz_peek h h0, zz_is, h.2.1]
  by_cases g : 48 ≤ zz_pk T n p ∧ zz_pk T n p ≤ 57
  · simp only [if_pos g, if_neg zz_n10, zz_max]
    rw [zz_wmul ⟨by omega, by omega⟩ ⟨by omega, by omega⟩ ⟨by omega, by omega⟩, zz_wadd ⟨by omega, by omega⟩ ⟨by omega, by omega⟩ ⟨by omega, by omega⟩, zz_wsub ⟨by omega, by omega⟩ ⟨by omega, by omega⟩ ⟨by omega, by omega⟩, zz_wadd ⟨by omega, by omega⟩ ⟨by omega, by omega⟩ ⟨by omega, by omega⟩]
  · simp only [if_neg g, if_pos zz_00, if_true]
theorem zz_rnE (f : Nat) {x k : Int} (hk : ¬ k < 2) : kL_X8_readNumber_4 q (f + 1) x k u = (x, u) := by
  have eK : kL_X8_readNumber_4 q (f + 1) x k u = kB_X8_readNumber_4 (kL_X8_readNumber_4 q f) q x k u := rfl
  rw [eK]
  unfold kB_X8_readNumber_4
  rw [if_neg hk]
/-- one digit on, in the reference -/
theorem zz_rnD (h : zz_D T a2 tb NV bn B2 n d p m v) (h0 : 0 ≤ p) (f : Nat) {s x : Int} (hs : s ≤ p) : kL_X12_readsTwo_27 a2 s (f + 1) v p x = if (48 ≤ zz_pk T n p ∧ zz_pk T n p ≤ 57) ∧ p < s + 2 then kL_X12_readsTwo_27 a2 s f (fx_pt (fx_pt v a2 8 (10 * x + zz_pk T n p - 48)) a2 5 (p + 1)) (p + 1) (10 * x + zz_pk T n p - 48) else (1, v) := by
  have eK : kL_X12_readsTwo_27 a2 s (f + 1) v p x = kB_X12_readsTwo_27 (kL_X12_readsTwo_27 a2 s f) a2 s v p x := rfl
  rw [eK]
  unfold kB_X12_readsTwo_27
  simp only [fz_lt, fz_ls, zz_digit h h0, zz_here h h0]
  by_cases g : 48 ≤ zz_pk T n p ∧ zz_pk T n p ≤ 57
  · by_cases g2 : p < s + 2
    · simp only [if_pos g, if_neg zz_n10, if_pos g2]
      rw [if_pos ⟨g, g2⟩]
    · simp only [if_pos g, if_neg zz_n10, if_neg g2]
      rw [if_neg (fun z => g2 z.2)]
  · simp only [if_neg g, if_pos zz_00, if_true]
    rw [if_neg (fun z => g z.1)]
theorem zz_RN (hC : zz_C T q V1 ta B1 n p m u) (hD : zz_D T a2 tb NV bn B2 n d p m v) (h0 : 0 ≤ p) (hn : n ≤ 240) (c1 : ta ≠ q) (c2 : V1 ≠ q) (k1 : tb ≠ a2) (k2 : bn ≠ a2) (k3 : NV ≠ a2) :
    (f_X8_readNumber u q = (-1, u) ∧ f_X12_readsTwo v a2 = (0, fx_pt v a2 7 (zz_ft 1 p))) ∨ ∃ (x p2 : Int) (u2 v2 : fx_U), f_X8_readNumber u q = (x, u2) ∧ f_X12_readsTwo v a2 = (1, v2) ∧ (0 ≤ x ∧ x ≤ 99) ∧ (p < p2 ∧ p2 ≤ n) ∧ zz_C T q V1 ta B1 n p2 m u2 ∧ zz_D T a2 tb NV bn B2 n d p2 m v2 ∧ v2 a2 8 = x ∧ (∀ j, u2 V1 j = u V1 j) ∧ u2 q 5 = u q 5 ∧ ∀ j, v2 NV j = v NV j := by
  have eC : f_X8_readNumber u q = kL_X8_readNumber_4 q (2 + 1) (-1) 0 u := by
    unfold f_X8_readNumber
    simp only [fz_lr]
    rw [show Int.toNat (2 - 0) + 1 = 2 + 1 from rfl]
  by_cases g : 48 ≤ zz_pk T n p ∧ zz_pk T n p ≤ 57
  · have hpn := zz_pk_lt (T := T) (n := n) (p := p) (by omega)
    obtain ⟨f, hf⟩ : ∃ f : Nat, Int.toNat (260 - p) + 1 = f + 1 + 1 + 1 := ⟨Int.toNat (260 - p) - 2, by omega⟩
    have eD : f_X12_readsTwo v a2 = kL_X12_readsTwo_27 a2 p (f + 1 + 1 + 1) (fx_pt v a2 8 0) p 0 := by
      unfold f_X12_readsTwo
      simp only [fz_lt, fz_ls, zz_digit hD h0, if_pos g, if_neg zz_n10, hD.2.1, hf]
    have C1 := hC.at (p2 := p + 1) c1
    have D0 := hD.pt (j := 8) (x := 0) k1 k2 (by decide)
    have D1 := (D0.pt (j := 8) (x := 10 * 0 + zz_pk T n p - 48) k1 k2 (by decide)).at (p2 := p + 1) k1 k2
    rw [eC, eD, zz_rnC hC h0 (by omega) _ (by decide) (by decide), if_pos g, zz_rnD D0 h0 _ (Int.le_refl p), if_pos ⟨g, by omega⟩]
    rw [show max (0 : Int) (-1) * 10 + zz_pk T n p - 48 = 10 * 0 + zz_pk T n p - 48 by omega]
    rw [zz_rnC C1 (by omega) (by omega) _ (by decide) (by omega), zz_rnD D1 (by omega) _ (by omega)]
    by_cases g2 : 48 ≤ zz_pk T n (p + 1) ∧ zz_pk T n (p + 1) ≤ 57
    · have hpn2 := zz_pk_lt (T := T) (n := n) (p := p + 1) (by omega)
      have C2 := C1.at (p2 := p + 1 + 1) c1
      have D2 := (D1.pt (j := 8) (x := 10 * (10 * 0 + zz_pk T n p - 48) + zz_pk T n (p + 1) - 48) k1 k2 (by decide)).at (p2 := p + 1 + 1) k1 k2
      rw [if_pos g2, if_pos ⟨g2, by omega⟩, zz_rnE _ (by decide), zz_rnD D2 (by omega) _ (by omega), if_neg (fun z => by omega)]
      rw [show max (0 : Int) (10 * 0 + zz_pk T n p - 48) * 10 + zz_pk T n (p + 1) - 48 = 10 * (10 * 0 + zz_pk T n p - 48) + zz_pk T n (p + 1) - 48 by omega]
      refine Or.inr ⟨_, p + 1 + 1, _, _, rfl, rfl, by omega, by omega, C2, D2, ?_, fun j => ?_, ?_, fun j => ?_⟩
      · rw [zz_pj (by decide), zz_ps]
      · rw [zz_pa c2, zz_pa c2]
      · rw [zz_pj (by decide), zz_pj (by decide)]
      · rw [zz_pa k3, zz_pa k3, zz_pa k3, zz_pa k3, zz_pa k3]
    · rw [if_neg g2, if_neg (fun z => g2 z.1)]
      refine Or.inr ⟨_, p + 1, _, _, rfl, rfl, by omega, by omega, C1, D1, ?_, fun j => ?_, ?_, fun j => ?_⟩
      · rw [zz_pj (by decide), zz_ps]
      · rw [zz_pa c2]
      · rw [zz_pj (by decide)]
      · rw [zz_pa k3, zz_pa k3, zz_pa k3]
  · refine Or.inl ⟨?_, ?_⟩
    · by_cases hp : p ≤ 1000
      · rw [eC, zz_rnC hC h0 hp _ (by decide) (by decide), if_neg g]
      · rw [eC]
        have eK : kL_X8_readNumber_4 q (2 + 1) (-1) 0 u = kB_X8_readNumber_4 (kL_X8_readNumber_4 q 2) q (-1) 0 u := rfl
        rw [eK]
        unfold kB_X8_readNumber_4
        rw [if_pos (by decide)]
        simp only [fz_lt, zz_peek hC h0, zz_is, if_neg g, if_pos zz_00, if_true]
    · unfold f_X12_readsTwo f_X12_wrongAt
      simp only [fz_lt, fz_ls, fz_lc, zz_digit hD h0, if_neg g, if_pos zz_00, if_true, hD.2.1, zz_ft]
/-- the values are laid, in the class -/
theorem zz_fillC {x1 sg num t : Int} (c1 : ta ≠ q) (c2 : V1 ≠ q) (c3 : ta ≠ V1) (ht : t ≤ 64) :
    ∀ (f : Nat) (k : Int) (m : Int) (w : fx_U), 0 ≤ k → k ≤ t → (64 - k).toNat < f → 0 ≤ m → zz_C T q V1 ta B1 n p m w → ∃ w2, kL_X8_readValue_191 t q sg num f k w m = (1, w2) ∧ zz_C T q V1 ta B1 n p (m + (t - k)) w2 ∧ w2 q 5 = w q 5 ∧ ∀ j : Nat, w2 V1 j = if m ≤ j ∧ (j : Int) < m + (t - k) then (if sg = 0 then num else -num) else w V1 j := by
  intro f
  induction f with
  | zero => intro k m w _ _ h; omega
  | succ f ih =>
    intro k m w hk hkt hf hm hC
    have eK : kL_X8_readValue_191 t q sg num (f + 1) k w m = kB_X8_readValue_191 (kL_X8_readValue_191 t q sg num f) t q sg num k w m := rfl
    rw [eK]
    unfold kB_X8_readValue_191 kJ_X8_readValue_219
    by_cases h : k < t
    · rw [if_pos h]
      simp only [fz_lr, fz_ls, fz_lt, hC.1.1, Int.toNat_natCast]
      have key : ∀ x : Int, ∃ w2, kL_X8_readValue_191 t q sg num f (k + 1) (fx_pt (fx_pt w V1 m.toNat x) q 4 (m + 1)) (m + 1) = (1, w2) ∧ zz_C T q V1 ta B1 n p (m + (t - k)) w2 ∧ w2 q 5 = w q 5 ∧ ∀ j : Nat, w2 V1 j = if m + 1 ≤ j ∧ (j : Int) < m + (t - k) then (if sg = 0 then num else -num) else (if j = m.toNat then x else w V1 j) := by
        intro x
        obtain ⟨w2, g1, g2, g3, g4⟩ := ih (k + 1) (m + 1) (fx_pt (fx_pt w V1 m.toNat x) q 4 (m + 1)) (by omega) (by omega) (by omega) (by omega) (hC.more (x := x) (j := m.toNat) c1 c2 c3)
        refine ⟨w2, g1, ?_, ?_, fun j => ?_⟩
        · rw [show m + (t - k) = m + 1 + (t - (k + 1)) by omega]; exact g2
        · rw [g3, zz_pj (by decide), zz_pa (Ne.symm c2)]
        · have ee : fx_pt w V1 m.toNat x V1 j = if j = m.toNat then x else w V1 j := by
            by_cases e : j = m.toNat
            · rw [if_pos e, e, zz_ps]
            · rw [if_neg e, zz_pj e]
          rw [g4 j, show m + 1 + (t - (k + 1)) = m + (t - k) by omega, zz_pa c2, ee]
      by_cases hs : sg = 0
      · rw [if_pos hs]
        obtain ⟨w2, g1, g2, g3, g4⟩ := key num
        refine ⟨w2, g1, g2, g3, fun j => ?_⟩
        rw [g4 j, if_pos hs]
        by_cases e : j = m.toNat
        · rw [if_neg (by omega), if_pos e, if_pos (by omega)]
        · by_cases e2 : m + 1 ≤ (j : Int) ∧ (j : Int) < m + (t - k)
          · rw [if_pos e2, if_pos (by omega)]
          · rw [if_neg e2, if_neg e, if_neg (by omega)]
      · rw [if_neg hs]
        obtain ⟨w2, g1, g2, g3, g4⟩ := key (-num)
        refine ⟨w2, g1, g2, g3, fun j => ?_⟩
        rw [g4 j, if_neg hs]
        by_cases e : j = m.toNat
        · rw [if_neg (by omega), if_pos e, if_pos (by omega)]
        · by_cases e2 : m + 1 ≤ (j : Int) ∧ (j : Int) < m + (t - k)
          · rw [if_pos e2, if_pos (by omega)]
          · rw [if_neg e2, if_neg e, if_neg (by omega)]
    · have e : k = t := by omega
      rw [if_neg h]
      refine ⟨w, rfl, ?_, rfl, fun j => ?_⟩
      · rw [show m + (t - k) = m by omega]; exact hC
      · rw [if_neg (by omega)]
/-- in the reference -/
theorem zz_fillD {x t F : Int} (k1 : tb ≠ a2) (k2 : bn ≠ a2) (k3 : NV ≠ a2) (k4 : tb ≠ NV) (k5 : bn ≠ NV) (ht : t ≤ 64) (hm : 0 ≤ m) :
    ∀ (f : Nat) (k : Int) (w : fx_U), 0 ≤ k → k ≤ t → (64 - k).toNat < f → zz_D T a2 tb NV bn B2 n d p m w → ∃ w2, kL_X12_readsValue_183 t a2 x f k w F m = (1, w2) ∧ zz_D T a2 tb NV bn B2 n d p (m + t) w2 ∧ ∀ j : Nat, w2 NV j = if m + k ≤ j ∧ (j : Int) < m + t then x else w NV j := by
  intro f
  induction f with
  | zero => intro k w _ _ h; omega
  | succ f ih =>
    intro k w hk hkt hf hD
    have eK : kL_X12_readsValue_183 t a2 x (f + 1) k w F m = kB_X12_readsValue_183 (kL_X12_readsValue_183 t a2 x f) t a2 x k w F m := rfl
    rw [eK]
    unfold kB_X12_readsValue_183
    simp only [fz_lr, fz_ls, fz_lt, hD.1.2.2.1, Int.toNat_natCast]
    by_cases h : k < t
    · rw [if_pos h]
      obtain ⟨w2, g1, g2, g4⟩ := ih (k + 1) (fx_pt w NV (m + k).toNat x) (by omega) (by omega) (by omega) (hD.nv k3 k4 k5)
      refine ⟨w2, g1, g2, fun j => ?_⟩
      rw [g4 j]
      by_cases e : j = (m + k).toNat
      · rw [if_neg (by omega), e, zz_ps, if_pos (by omega)]
      · rw [zz_pj e]
        by_cases e2 : m + (k + 1) ≤ (j : Int) ∧ (j : Int) < m + t
        · rw [if_pos e2, if_pos (by omega)]
        · rw [if_neg e2, if_neg (by omega)]
    · rw [if_neg h]
      refine ⟨_, rfl, hD.many k1 k2, fun j => ?_⟩
      rw [zz_pa k3, if_neg (by omega)]
end Row
