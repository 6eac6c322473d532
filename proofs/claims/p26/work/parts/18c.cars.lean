/-! THE LIGHTS: the cars that come, the best green, the answers -/
def zz_okc (T : Nat → Int) (k : Nat) : Prop := ∀ j, j < k → (0 ≤ T (2 * j + 1) ∧ T (2 * j + 1) ≤ 1) ∧ (0 < j → T (2 * j - 2) ≤ T (2 * j))
theorem zz_okc.more {T : Nat → Int} {k : Nat} (h : zz_okc T k) (h1 : 0 ≤ T (2 * k + 1) ∧ T (2 * k + 1) ≤ 1) (h2 : 0 < k → T (2 * k - 2) ≤ T (2 * k)) : zz_okc T (k + 1) := by
  intro j hj
  by_cases e : j = k
  · subst e
    exact ⟨h1, h2⟩
  · exact h j (by omega)
section Take
variable {l L1 L2 L3 n ta : Nat} {T : Nat → Int}
theorem zz_take_L (ha : zz_ap l L1 L2 L3) (t1 : ta ≠ l) (t2 : ta ≠ L1) (t3 : ta ≠ L2) (hn : n ≤ 20) :
    ∀ (fuel k : Nat) (w : fx_U), k ≤ n → 20 - k < fuel → (∀ i, i < 2 * n → w ta i = T i) → zz_ln w l L1 L2 L3 → w l 0 = (k : Int) → (∀ j, j < k → w L1 j = T (2 * j) ∧ w L2 j = T (2 * j + 1)) → zz_okc T k →
      ((kL_X2_take_7 n l ta fuel k w k).1 = 1 ∧ zz_okc T n ∧ (kL_X2_take_7 n l ta fuel k w k).2 l 0 = (n : Int) ∧ zz_ln (kL_X2_take_7 n l ta fuel k w k).2 l L1 L2 L3 ∧ ∀ j, j < n → (kL_X2_take_7 n l ta fuel k w k).2 L1 j = T (2 * j) ∧ (kL_X2_take_7 n l ta fuel k w k).2 L2 j = T (2 * j + 1)) ∨ ((kL_X2_take_7 n l ta fuel k w k).1 = 0 ∧ ¬ zz_okc T n) := by
  intro fuel
  induction fuel with
  | zero => intro k w h1 h2; omega
  | succ fuel ih =>
    intro k w hk hf ht hl h0 hcs hok
    obtain ⟨⟨a1, a2, a3⟩, a4, a5, a6⟩ := ha
    obtain ⟨l1, l2, l3⟩ := hl
    have eK : kL_X2_take_7 n l ta (fuel + 1) k w k = kB_X2_take_7 (kL_X2_take_7 n l ta fuel) n l ta k w k := rfl
    rw [eK]
    by_cases hkn : k < n
    · have e1 : (2 * (k : Int)).toNat = 2 * k := by omega
      have e2 : (2 * (k : Int) + 1).toNat = 2 * k + 1 := by omega
      have v2 : fx_pt w L1 k (T (2 * k)) l 2 = (L2 : Int) := by rw [zz_pa (Ne.symm a4)]; exact l2
      have v5 : fx_pt w L1 k (T (2 * k)) ta (2 * k + 1) = T (2 * k + 1) := by rw [zz_pa t2]; exact ht _ (by omega)
      obtain ⟨W, hW⟩ : ∃ W : fx_U, W = fx_pt (fx_pt w L1 k (T (2 * k))) L2 k (T (2 * k + 1)) := ⟨_, rfl⟩
      have go : zz_okc T (k + 1) → kJ_X2_take_89 k W l k (kL_X2_take_7 n l ta fuel) = kL_X2_take_7 n l ta fuel ((k + 1 : Nat) : Int) (fx_pt W l 0 ((k + 1 : Nat) : Int)) ((k + 1 : Nat) : Int) := by
        intro _
        unfold kJ_X2_take_89
        simp only [fz_lt, fz_ls]
        rw [show (k : Int) + 1 = ((k + 1 : Nat) : Int) by omega]
      have nx : zz_okc T (k + 1) → _ := fun hq => ih (k + 1) (fx_pt W l 0 ((k + 1 : Nat) : Int)) (by omega) (by omega)
        (fun i hi => by rw [zz_pa t1, hW, zz_pa t3, zz_pa t2]; exact ht i hi)
        ⟨by rw [zz_pj (by decide), hW, zz_pa (Ne.symm a5), zz_pa (Ne.symm a4)]; exact l1, by rw [zz_pj (by decide), hW, zz_pa (Ne.symm a5), zz_pa (Ne.symm a4)]; exact l2, by rw [zz_pj (by decide), hW, zz_pa (Ne.symm a5), zz_pa (Ne.symm a4)]; exact l3⟩
        zz_ps
        (fun j hj => by
          rw [zz_pa a4, zz_pa a5, hW]
          by_cases e : j = k
          · subst e
            rw [zz_pa a6, zz_ps, zz_ps]
            exact ⟨rfl, rfl⟩
          · rw [zz_pj e, zz_pj e, zz_pj e, zz_pj e]
            exact hcs j (by omega)) hq
      have body : kB_X2_take_7 (kL_X2_take_7 n l ta fuel) n l ta k w k = (if (if (0 : Int) ≤ T (2 * k + 1) ∧ T (2 * k + 1) ≤ 1 then (1 : Int) else 0) = 0 then (0, W) else (if (0 : Int) < k then (if T (2 * k) < W L1 ((k : Int) - 1).toNat then (0, W) else kJ_X2_take_89 k W l k (kL_X2_take_7 n l ta fuel)) else kJ_X2_take_89 k W l k (kL_X2_take_7 n l ta fuel))) := by
        unfold kB_X2_take_7
        rw [if_pos (show (k : Int) < n by omega), if_pos (show (k : Int) < 20 by omega)]
        simp only [fz_lt, fz_lr, fz_ls]
        rw [if_pos (show 2 * (k : Int) + 1 < 260 by omega)]
        simp only [l1, Int.toNat_natCast, e1, e2, ht (2 * k) (by omega), v2, v5, zz_is, ← hW]
      rw [body]
      by_cases g1 : (0 : Int) ≤ T (2 * k + 1) ∧ T (2 * k + 1) ≤ 1
      · rw [if_pos g1, if_neg (by decide)]
        by_cases g2 : (0 : Int) < k
        · have e3 : ((k : Int) - 1).toNat = k - 1 := by omega
          have e4 : W L1 (k - 1) = T (2 * k - 2) := by
            rw [hW, zz_pa a6, zz_pj (by omega), (hcs (k - 1) (by omega)).1]
            congr 1
            omega
          rw [if_pos g2, e3, e4]
          by_cases g3 : T (2 * k) < T (2 * k - 2)
          · rw [if_pos g3]
            exact Or.inr ⟨rfl, fun q => by have := (q k hkn).2 (by omega); omega⟩
          · have hq := hok.more g1 (fun _ => by omega)
            rw [if_neg g3, go hq]
            exact nx hq
        · have hq := hok.more g1 (fun q => by omega)
          rw [if_neg g2, go hq]
          exact nx hq
      · rw [if_neg g1, if_pos rfl]
        exact Or.inr ⟨rfl, fun q => g1 (q k hkn).1⟩
    · have e : k = n := by omega
      have body : kB_X2_take_7 (kL_X2_take_7 n l ta fuel) n l ta k w k = (1, w) := by
        unfold kB_X2_take_7
        rw [if_neg (by omega)]
      rw [body]
      subst e
      exact Or.inl ⟨rfl, hok, h0, ⟨l1, l2, l3⟩, hcs⟩
theorem zz_take {u : fx_U} (ha : zz_ap l L1 L2 L3) (t1 : ta ≠ l) (t2 : ta ≠ L1) (t3 : ta ≠ L2) (hn : n ≤ 20) (ht : ∀ i, i < 2 * n → u ta i = T i) (hl : zz_ln u l L1 L2 L3) :
    ((f_X2_take u l ta n).1 = 1 ∧ zz_okc T n ∧ (f_X2_take u l ta n).2 l 0 = (n : Int) ∧ zz_ln (f_X2_take u l ta n).2 l L1 L2 L3 ∧ ∀ j, j < n → (f_X2_take u l ta n).2 L1 j = T (2 * j) ∧ (f_X2_take u l ta n).2 L2 j = T (2 * j + 1)) ∨ ((f_X2_take u l ta n).1 = 0 ∧ ¬ zz_okc T n) := by
  have e : f_X2_take u l ta n = kL_X2_take_7 n l ta 21 ((0 : Nat) : Int) (fx_pt u l 0 0) ((0 : Nat) : Int) := by
    unfold f_X2_take
    simp only [fz_ls]
    rw [show Int.toNat (20 - 0) + 1 = 21 from rfl, show ((0 : Nat) : Int) = 0 from rfl]
  rw [e]
  exact zz_take_L ha t1 t2 t3 hn 21 0 (fx_pt u l 0 0) (by omega) (by omega) (fun i hi => by rw [zz_pa t1]; exact ht i hi) ⟨by rw [zz_pj (by decide)]; exact hl.1, by rw [zz_pj (by decide)]; exact hl.2.1, by rw [zz_pj (by decide)]; exact hl.2.2⟩ zz_ps (fun j hj => absurd hj (Nat.not_lt_zero j)) (fun j hj => absurd hj (Nat.not_lt_zero j))
end Take
section Ref
variable {v : fx_U} {a2 tb n : Nat} {g r : Int}
theorem zz_cars_L (hb : v a2 3 = (tb : Int)) (hv : ∀ i, i < 260 → -128 ≤ v tb i ∧ v tb i ≤ 127) (hn : n ≤ 20) :
    ∀ (fuel k : Nat), k ≤ n → 20 - k < fuel → zz_okc (fun i => v tb i % 256) k → (kL_X12_areCars_2 n v a2 fuel k = 1 ∧ zz_okc (fun i => v tb i % 256) n) ∨ (kL_X12_areCars_2 n v a2 fuel k = 0 ∧ ¬ zz_okc (fun i => v tb i % 256) n) := by
  intro fuel
  induction fuel with
  | zero => intro k h1 h2; omega
  | succ fuel ih =>
    intro k hk hf hok
    have eK : kL_X12_areCars_2 n v a2 (fuel + 1) k = kB_X12_areCars_2 (kL_X12_areCars_2 n v a2 fuel) n v a2 k := rfl
    rw [eK]
    unfold kB_X12_areCars_2 kJ_X12_areCars_60
    by_cases hkn : k < n
    · have e1 : (2 * (k : Int)).toNat = 2 * k := by omega
      have e2 : (2 * (k : Int) + 1).toNat = 2 * k + 1 := by omega
      have e3 : (2 * (k : Int) - 2).toNat = 2 * k - 2 := by omega
      have w1 := hv (2 * k + 1) (by omega)
      rw [if_pos (show (k : Int) < n by omega)]
      simp only [fz_lt, fz_lr, hb, Int.toNat_natCast, e1, e2, e3, zz_is2, zz_and (hv (2 * k) (by omega)), zz_and (hv (2 * k - 2) (by omega)), show (k : Int) + 1 = ((k + 1 : Nat) : Int) by omega]
      have nx := ih (k + 1) (by omega) (by omega)
      by_cases g1 : 0 ≤ v tb (2 * k + 1) ∧ v tb (2 * k + 1) ≤ 1
      · have g1' : 0 ≤ v tb (2 * k + 1) % 256 ∧ v tb (2 * k + 1) % 256 ≤ 1 := by omega
        rw [if_pos g1, if_neg (by decide)]
        by_cases g2 : (0 : Int) < k
        · rw [if_pos g2]
          by_cases g3 : v tb (2 * k) % 256 < v tb (2 * k - 2) % 256
          · rw [if_pos g3]
            exact Or.inr ⟨rfl, fun q => by have z : v tb (2 * k - 2) % 256 ≤ v tb (2 * k) % 256 := (q k hkn).2 (by omega); omega⟩
          · rw [if_neg g3]
            exact nx (hok.more g1' (fun _ => by show v tb (2 * k - 2) % 256 ≤ v tb (2 * k) % 256; omega))
        · rw [if_neg g2]
          exact nx (hok.more g1' (fun q => by omega))
      · rw [if_neg g1, if_pos rfl]
        exact Or.inr ⟨rfl, fun q => by have z : 0 ≤ v tb (2 * k + 1) % 256 ∧ v tb (2 * k + 1) % 256 ≤ 1 := (q k hkn).1; omega⟩
    · have e : k = n := by omega
      rw [if_neg (by omega)]
      subst e
      exact Or.inl ⟨rfl, hok⟩
theorem zz_gn0 {m e g r : Int} (h : q_gn m e g r) : q_gw m e g r = 0 := by
  unfold q_gn at h
  unfold q_gw
  generalize m % (2 * g + 2 * r) = t at *
  repeat' split
  all_goals omega
theorem zz_green1 {u : fx_U} {m e : Int} (he : e = 0 ∨ e = 1) (h : q_gn m e g r) : f_X12_isGreen u m e g r = 1 := by
  unfold f_X12_isGreen
  simp only [fz_lt, zz_is2]
  unfold q_gn at h
  rcases he with rfl | rfl
  · rw [if_pos rfl, if_pos (show m % (2 * g + 2 * r) < g by omega)]
  · rw [if_neg zz_n10, if_pos (show g + r ≤ m % (2 * g + 2 * r) ∧ m % (2 * g + 2 * r) ≤ 2 * g + r - 1 by omega)]
theorem zz_green0 {u : fx_U} {m e : Int} (he : e = 0 ∨ e = 1) (h : ¬ q_gn m e g r) : f_X12_isGreen u m e g r = 0 := by
  unfold f_X12_isGreen
  simp only [fz_lt, zz_is2]
  unfold q_gn at h
  rcases he with rfl | rfl
  · rw [if_pos rfl, if_neg (show ¬ m % (2 * g + 2 * r) < g by omega)]
  · rw [if_neg zz_n10, if_neg (show ¬ (g + r ≤ m % (2 * g + 2 * r) ∧ m % (2 * g + 2 * r) ≤ 2 * g + r - 1) by omega)]
theorem zz_wait63 {u : fx_U} {e p v57 k : Int} {rec18 : Int → Int → Int → Int} (he : e = 0 ∨ e = 1) (hg : 1 ≤ g ∧ g ≤ 20) (hr : 0 ≤ r ∧ r ≤ 9) :
    ∀ (fuel : Nat) (m : Int), (q_gw m e g r).toNat < fuel → kL_X12_waitsBy_63 u e g r p v57 k rec18 fuel m = rec18 (fx_b_sub (fx_b_add p (m + q_gw m e g r)) v57) (m + q_gw m e g r + 1) (k + 1) := by
  intro fuel
  induction fuel with
  | zero => intro m h; omega
  | succ fuel ih =>
    intro m hf
    have eK : kL_X12_waitsBy_63 u e g r p v57 k rec18 (fuel + 1) m = kB_X12_waitsBy_63 (kL_X12_waitsBy_63 u e g r p v57 k rec18 fuel) u e g r p v57 k rec18 m := rfl
    rw [eK]
    unfold kB_X12_waitsBy_63 kJ_X12_waitsBy_111
    simp only [fz_lt]
    by_cases h : q_gn m e g r
    · rw [zz_green1 he h, if_neg zz_n10, zz_gn0 h, Int.add_zero]
    · have h1 := q_gw_step hg.1 hr.1 h
      have h2 := q_gw_le (m := m + 1) (e := e) hg hr
      rw [zz_green0 he h, if_pos rfl, ih (m + 1) (by omega)]
      rw [show m + 1 + q_gw (m + 1) e g r = m + q_gw m e g r by omega]
theorem zz_wait18 {S e : Int} {rec6 : Int → Int → Int} (hb : v a2 3 = (tb : Int)) (hv : ∀ i, i < 260 → -128 ≤ v tb i ∧ v tb i ≤ 127) (hn : n ≤ 20) (he : e = 0 ∨ e = 1) (hg : 1 ≤ g ∧ g ≤ 20) (hr : 0 ≤ r ∧ r ≤ 9) (hS : 0 ≤ S ∧ S ≤ 30000) (hs : ∀ k, k < n → v tb (2 * k + 1) = v tb (2 * k + 1) % 256) :
    ∀ (fuel k : Nat) (p m : Int), k ≤ n → 20 - k < fuel → p = S + zz_sm (fun j => v tb (2 * j) % 256) (fun j => v tb (2 * j + 1) % 256) g r e k → m = zz_fr (fun j => v tb (2 * j) % 256) (fun j => v tb (2 * j + 1) % 256) g r e k → kL_X12_waitsBy_18 n v a2 e g r rec6 fuel p m k = rec6 (S + zz_sm (fun j => v tb (2 * j) % 256) (fun j => v tb (2 * j + 1) % 256) g r e n) (e + 1) := by
  obtain ⟨c, hc⟩ : ∃ c : Nat → Int, c = fun j => v tb (2 * j) % 256 := ⟨_, rfl⟩
  obtain ⟨s, hse⟩ : ∃ s : Nat → Int, s = fun j => v tb (2 * j + 1) % 256 := ⟨_, rfl⟩
  rw [← hc, ← hse]
  have cb : ∀ k, 0 ≤ c k ∧ c k ≤ 255 := fun k => by rw [hc]; show 0 ≤ v tb (2 * k) % 256 ∧ v tb (2 * k) % 256 ≤ 255; omega
  intro fuel
  induction fuel with
  | zero => intro k p m h1 h2; omega
  | succ fuel ih =>
    intro k p m hk hf hp hm
    have eK : kL_X12_waitsBy_18 n v a2 e g r rec6 (fuel + 1) p m k = kB_X12_waitsBy_18 (kL_X12_waitsBy_18 n v a2 e g r rec6 fuel) n v a2 e g r rec6 p m k := rfl
    rw [eK]
    unfold kB_X12_waitsBy_18
    by_cases hkn : k < n
    · have e1 : (2 * (k : Int)).toNat = 2 * k := by omega
      have e2 : (2 * (k : Int) + 1).toNat = 2 * k + 1 := by omega
      rw [if_pos (show (k : Int) < n by omega)]
      simp only [fz_lt, fz_lr, hb, Int.toNat_natCast, e1, e2, zz_and (hv (2 * k) (by omega)), zz_max2]
      have ek : (k : Int) + 1 = ((k + 1 : Nat) : Int) := by omega
      have sk : s k = v tb (2 * k + 1) := by rw [hse]; exact (hs k hkn).symm
      have ck : c k = v tb (2 * k) % 256 := by rw [hc]
      rw [← sk, ← ck]
      by_cases h : s k = e
      · have b1 := zz_fr_b (c := c) (s := s) (e := e) cb hg hr k
        have b2 := zz_sm_b (c := c) (s := s) (e := e) cb hg hr k (by omega)
        have b3 := cb k
        have b4 := q_gw_le (m := max (c k) (zz_fr c s g r e k)) (e := e) hg hr
        have em : max m (c k) = max (c k) (zz_fr c s g r e k) := by rw [hm]; omega
        rw [if_pos h, em, zz_wait63 he hg hr _ _ (by omega), zz_wadd (by rw [hp]; exact ⟨by omega, by omega⟩) ⟨by omega, by omega⟩ (by rw [hp]; exact ⟨by omega, by omega⟩), zz_wsub (by rw [hp]; exact ⟨by omega, by omega⟩) ⟨by omega, by omega⟩ (by rw [hp]; exact ⟨by omega, by omega⟩), ek]
        exact ih (k + 1) _ _ (by omega) (by omega) (by rw [zz_sm_y h, zz_fr_y h, hp]; omega) (by rw [zz_fr_y h])
      · rw [if_neg h]
        unfold kJ_X12_waitsBy_111
        simp only [fz_lt]
        rw [ek]
        exact ih (k + 1) _ _ (by omega) (by omega) (by rw [zz_sm_n h]; exact hp) (by rw [zz_fr_n h]; exact hm)
    · have e0 : k = n := by omega
      rw [if_neg (by omega)]
      simp only [fz_lt]
      rw [hp, e0]
theorem zz_waitsBy (hb : v a2 3 = (tb : Int)) (hv : ∀ i, i < 260 → -128 ≤ v tb i ∧ v tb i ≤ 127) (hn : n ≤ 20) (hg : 1 ≤ g ∧ g ≤ 20) (hr : 0 ≤ r ∧ r ≤ 9) (hs : ∀ k, k < n → v tb (2 * k + 1) = v tb (2 * k + 1) % 256) :
    f_X12_waitsBy v a2 n g r = zz_sm (fun j => v tb (2 * j) % 256) (fun j => v tb (2 * j + 1) % 256) g r 0 n + zz_sm (fun j => v tb (2 * j) % 256) (fun j => v tb (2 * j + 1) % 256) g r 1 n := by
  have b0 := zz_sm_b (c := fun j => v tb (2 * j) % 256) (s := fun j => v tb (2 * j + 1) % 256) (e := 0) (fun k => by show 0 ≤ v tb (2 * k) % 256 ∧ v tb (2 * k) % 256 ≤ 255; omega) hg hr n hn
  have w6 : ∀ (f : Nat) (x e : Int), e < 2 → kL_X12_waitsBy_6 n v a2 g r (f + 1) x e = kL_X12_waitsBy_18 n v a2 e g r (kL_X12_waitsBy_6 n v a2 g r f) 21 x 0 ((0 : Nat) : Int) := fun f x e h => by
    have eK : kL_X12_waitsBy_6 n v a2 g r (f + 1) x e = kB_X12_waitsBy_6 (kL_X12_waitsBy_6 n v a2 g r f) n v a2 g r x e := rfl
    rw [eK]
    unfold kB_X12_waitsBy_6
    rw [if_pos h, show Int.toNat (20 - 0) + 1 = 21 from rfl, show ((0 : Nat) : Int) = 0 from rfl]
  have w6e : ∀ (f : Nat) (x e : Int), ¬ e < 2 → kL_X12_waitsBy_6 n v a2 g r (f + 1) x e = x := fun f x e h => by
    have eK : kL_X12_waitsBy_6 n v a2 g r (f + 1) x e = kB_X12_waitsBy_6 (kL_X12_waitsBy_6 n v a2 g r f) n v a2 g r x e := rfl
    rw [eK]
    unfold kB_X12_waitsBy_6
    rw [if_neg h]
  have e1 : f_X12_waitsBy v a2 n g r = kL_X12_waitsBy_18 n v a2 0 g r (kL_X12_waitsBy_6 n v a2 g r (0 + 1 + 1)) 21 0 0 ((0 : Nat) : Int) := by
    unfold f_X12_waitsBy
    rw [show Int.toNat (2 - 0) + 1 = 0 + 1 + 1 + 1 from rfl, w6 _ _ _ (by decide)]
  rw [e1, zz_wait18 (S := 0) hb hv hn (Or.inl rfl) hg hr (by omega) hs 21 0 0 0 (by omega) (by omega) rfl rfl]
  rw [w6 _ _ _ (by decide), Int.zero_add, Int.zero_add, zz_wait18 (S := zz_sm (fun j => v tb (2 * j) % 256) (fun j => v tb (2 * j + 1) % 256) g r 0 n) hb hv hn (Or.inr rfl) hg hr (by omega) hs 21 0 _ 0 (by omega) (by omega) (Int.add_zero _).symm rfl, w6e _ _ _ (by decide)]
end Ref
/-- the best of greens, by a sum of each -/
def zz_bg (W : Int → Int) : Nat → Int → Int → Int
  | 0, b, _ => b
  | n + 1, b, g => zz_bg W n (if W g < W b then g else b) (g + 1)
section Best
variable {l L1 L2 L3 n : Nat} {c s : Nat → Int} {r : Int}
abbrev zz_W (c s : Nat → Int) (r : Int) (n : Nat) (g : Int) : Int := zz_sm c s g r 0 n + zz_sm c s g r 1 n
theorem zz_best_L (ha : zz_ap l L1 L2 L3) (hc : ∀ k, 0 ≤ c k ∧ c k ≤ 255) (hs : ∀ k, k < n → s k = 0 ∨ s k = 1) (hn : n ≤ 20) (hr : 0 ≤ r ∧ r ≤ 9) :
    ∀ (fuel m : Nat) (b f g : Int) (w : fx_U), (m : Int) = 21 - g → m < fuel → 2 ≤ g → 1 ≤ b ∧ b ≤ 20 → f = zz_W c s r n b → w l 0 = (n : Int) → zz_ln w l L1 L2 L3 → (∀ j, j < n → w L1 j = c j ∧ w L2 j = s j) →
      (kL_X2_bestGreen_12 l r fuel b f g w).1 = zz_bg (zz_W c s r n) m b g ∧ (1 ≤ (kL_X2_bestGreen_12 l r fuel b f g w).1 ∧ (kL_X2_bestGreen_12 l r fuel b f g w).1 ≤ 20) ∧ ∀ q, q ≠ L3 → ∀ i, (kL_X2_bestGreen_12 l r fuel b f g w).2 q i = w q i := by
  intro fuel
  induction fuel with
  | zero => intro m b f g w h1 h2; omega
  | succ fuel ih =>
    intro m b f g w hm hf hg hb hfw h0 hl hcs
    have a0 := ha
    obtain ⟨⟨a1, a2, a3⟩, a4, a5, a6⟩ := a0
    have eK : kL_X2_bestGreen_12 l r (fuel + 1) b f g w = kB_X2_bestGreen_12 (kL_X2_bestGreen_12 l r fuel) l r b f g w := rfl
    rw [eK]
    unfold kB_X2_bestGreen_12 kJ_X2_bestGreen_40
    by_cases h20 : 20 < g
    · have e : m = 0 := by omega
      rw [if_pos h20, e]
      exact ⟨rfl, hb, fun _ _ _ => rfl⟩
    · obtain ⟨m', rfl⟩ : ∃ m', m = m' + 1 := ⟨m - 1, by omega⟩
      rw [if_neg h20]
      have q := zz_waits (c := c) (s := s) ha hc hs hn (g := g) (by omega) hr h0 hl hcs
      simp only [fz_lc, fz_lt]
      rw [q.1]
      have st : ∀ (b2 f2 : Int), (1 ≤ b2 ∧ b2 ≤ 20) → f2 = zz_W c s r n b2 → _ := fun b2 f2 hb2 hf2 => ih m' b2 f2 (g + 1) (f_X2_waits w l g r).2 (by omega) (by omega) (by omega) hb2 hf2
        (by rw [q.2 l (Ne.symm a1)]; exact h0) ⟨by rw [q.2 l (Ne.symm a1)]; exact hl.1, by rw [q.2 l (Ne.symm a1)]; exact hl.2.1, by rw [q.2 l (Ne.symm a1)]; exact hl.2.2⟩
        (fun j hj => by rw [q.2 L1 (Ne.symm a2), q.2 L2 (Ne.symm a3)]; exact hcs j hj)
      have ez : zz_bg (zz_W c s r n) (m' + 1) b g = zz_bg (zz_W c s r n) m' (if zz_W c s r n g < zz_W c s r n b then g else b) (g + 1) := rfl
      rw [ez]
      by_cases h : zz_sm c s g r 0 n + zz_sm c s g r 1 n < f
      · rw [if_pos h, if_pos (by rw [← hfw]; exact h)]
        have z := st g _ (by omega) rfl
        exact ⟨z.1, z.2.1, fun p hp i => by rw [z.2.2 p hp i, q.2 p hp i]⟩
      · rw [if_neg h, if_neg (by rw [← hfw]; exact h)]
        have z := st b f hb hfw
        exact ⟨z.1, z.2.1, fun p hp i => by rw [z.2.2 p hp i, q.2 p hp i]⟩
theorem zz_ref_L {v : fx_U} {a2 : Nat} {x3 : Int} {W : Int → Int} (hW : ∀ g, 1 ≤ g ∧ g ≤ 20 → f_X12_waitsBy v a2 n g r = W g) :
    ∀ (fuel m : Nat) (b g : Int), (m : Int) = 21 - g → m < fuel → 2 ≤ g → 1 ≤ b ∧ b ≤ 20 → (kL_X12_lights_90 x3 v a2 n r fuel b g).1 = (if x3 = 0 then W (zz_bg W m b g) else zz_bg W m b g) := by
  intro fuel
  induction fuel with
  | zero => intro m b g h1 h2; omega
  | succ fuel ih =>
    intro m b g hm hf hg hb
    have eK : kL_X12_lights_90 x3 v a2 n r (fuel + 1) b g = kB_X12_lights_90 (kL_X12_lights_90 x3 v a2 n r fuel) x3 v a2 n r b g := rfl
    rw [eK]
    unfold kB_X12_lights_90 kJ_X12_lights_120
    by_cases h20 : 20 < g
    · have e : m = 0 := by omega
      rw [if_pos h20, e]
      simp only [fz_lt]
      rw [hW b hb]
      split <;> rfl
    · obtain ⟨m', rfl⟩ : ∃ m', m = m' + 1 := ⟨m - 1, by omega⟩
      rw [if_neg h20]
      simp only [fz_lt]
      rw [hW b hb, hW g (by omega)]
      have ez : zz_bg W (m' + 1) b g = zz_bg W m' (if W g < W b then g else b) (g + 1) := rfl
      rw [ez]
      by_cases h : W g < W b
      · rw [if_pos h, if_pos h]
        exact ih m' g (g + 1) (by omega) (by omega) (by omega) (by omega)
      · rw [if_neg h, if_neg h]
        exact ih m' b (g + 1) (by omega) (by omega) (by omega) hb
end Best
/-- both answer alike -/
theorem zz_lights {u v : fx_U} {a1 a2 ta tb l L1 L2 L3 : Nat} {t x1 x2 x3 : Int} (h : zz_tp u v a1 a2 ta tb t) (h0 : 0 ≤ t ∧ t ≤ 260) (hv : ∀ i, i < 260 → -128 ≤ v tb i ∧ v tb i ≤ 127) (hlane : u a1 13 = (l : Int)) (hl : zz_ln u l L1 L2 L3) (ha : zz_ap l L1 L2 L3) (t1 : ta ≠ l) (t2 : ta ≠ L1) (t3 : ta ≠ L2) (n1 : l ≠ a1) (n2 : L1 ≠ a1) (n3 : L2 ≠ a1) (n5 : tb ≠ a2) : (f_X11_lights u a1 x1 x2 x3).1 = (f_X12_lights v a2 x1 x2 x3).1 := by
  obtain ⟨⟨hu, hw⟩, ⟨hta, htb⟩, htc⟩ := h
  have a0 := ha
  obtain ⟨⟨b1, b2, b3⟩, b4, b5, b6⟩ := a0
  unfold f_X11_lights f_X12_lights
  simp only [fz_lt, hu, hw, zz_is, zz_is2]
  by_cases g1 : 1 ≤ x1 ∧ x1 ≤ 20
  · by_cases g2 : 0 ≤ x2 ∧ x2 ≤ 9
    · have main : (0 ≤ x3 ∧ x3 ≤ 1) ∨ (11 ≤ x3 ∧ x3 ≤ 30) → (kJ_X11_lights_44 x1 t u a1 (if 11 ≤ x3 ∧ x3 ≤ 30 then 1 else 0) x2 x3).1 = (kJ_X12_lights_40 x1 t v a2 x3 x2).1 := by
        intro g3
        unfold kJ_X11_lights_44 kJ_X12_lights_40
        simp only [fz_lt, fz_lr, fz_ls, fz_lc, hlane, hta, Int.toNat_natCast]
        by_cases g4 : t < 2 * x1
        · simp only [if_pos g4]
        · simp only [if_neg g4]
          obtain ⟨n, hn⟩ : ∃ n : Nat, x1 = (n : Int) := ⟨x1.toNat, by omega⟩
          subst hn
          obtain ⟨V, hV⟩ : ∃ V : fx_U, V = fx_pt v a2 4 0 := ⟨_, rfl⟩
          have Vtb : ∀ i, V tb i = v tb i := fun i => by rw [hV, zz_pa n5]
          have V3 : V a2 3 = (tb : Int) := by rw [hV, zz_pj (by decide)]; exact htb
          have hv2 : ∀ i, i < 260 → -128 ≤ V tb i ∧ V tb i ≤ 127 := fun i hi => by rw [Vtb]; exact hv i hi
          have tk := zz_take (n := n) (u := u) (T := fun i => V tb i % 256) ha t1 t2 t3 (by omega) (fun i hi => by show u ta i = V tb i % 256; rw [Vtb]; exact htc i (by omega)) hl
          have cs := zz_cars_L (v := V) V3 hv2 (show n ≤ 20 by omega) 21 0 (by omega) (by omega) (fun j hj => absurd hj (Nat.not_lt_zero j))
          have ec : f_X12_areCars V a2 n = kL_X12_areCars_2 n V a2 21 ((0 : Nat) : Int) := by
            unfold f_X12_areCars
            rw [show Int.toNat (20 - 0) + 1 = 21 from rfl, show ((0 : Nat) : Int) = 0 from rfl]
          rw [← hV, ec]
          rcases tk with ⟨r1, r2, r3, r4, r5⟩ | ⟨r1, r2⟩
          · rcases cs with ⟨s1, s2⟩ | ⟨s1, s2⟩
            · rw [s1]
              simp only [r1, if_neg zz_n10, if_true]
              obtain ⟨U, hU⟩ : ∃ U : fx_U, U = fx_pt (f_X2_take u l ta n).2 a1 1 0 := ⟨_, rfl⟩
              rw [← hU]
              have hc : ∀ k : Nat, 0 ≤ (fun j => V tb (2 * j) % 256) k ∧ (fun j => V tb (2 * j) % 256) k ≤ 255 := fun k => by show 0 ≤ V tb (2 * k) % 256 ∧ V tb (2 * k) % 256 ≤ 255; omega
              have hs : ∀ k : Nat, k < n → (fun j => V tb (2 * j + 1) % 256) k = 0 ∨ (fun j => V tb (2 * j + 1) % 256) k = 1 := fun k hk => by
                have z : 0 ≤ V tb (2 * k + 1) % 256 ∧ V tb (2 * k + 1) % 256 ≤ 1 := (r2 k hk).1
                show V tb (2 * k + 1) % 256 = 0 ∨ V tb (2 * k + 1) % 256 = 1
                omega
              have hs2 : ∀ k : Nat, k < n → V tb (2 * k + 1) = V tb (2 * k + 1) % 256 := fun k hk => by
                have z1 : 0 ≤ V tb (2 * k + 1) % 256 ∧ V tb (2 * k + 1) % 256 ≤ 1 := (r2 k hk).1
                have z2 := hv2 (2 * k + 1) (by omega)
                omega
              have U0 : U l 0 = (n : Int) := by rw [hU, zz_pa n1]; exact r3
              have Ul : zz_ln U l L1 L2 L3 := ⟨by rw [hU, zz_pa n1]; exact r4.1, by rw [hU, zz_pa n1]; exact r4.2.1, by rw [hU, zz_pa n1]; exact r4.2.2⟩
              have Uc : ∀ j, j < n → U L1 j = (fun j => V tb (2 * j) % 256) j ∧ U L2 j = (fun j => V tb (2 * j + 1) % 256) j := fun j hj => by rw [hU, zz_pa n2, zz_pa n3]; exact r5 j hj
              by_cases g5 : 11 ≤ x3 ∧ x3 ≤ 30
              · simp only [if_pos g5, if_neg zz_n10, if_pos (show 1 < x3 by omega)]
                rw [(zz_waits (g := x3 - 10) ha hc hs (by omega) (by omega) g2 U0 Ul Uc).1, zz_waitsBy V3 hv2 (by omega) (by omega) g2 hs2]
              · simp only [if_neg g5, if_pos zz_00, if_true, if_neg (show ¬ 1 < x3 by omega)]
                have w1 := zz_waits (g := 1) ha hc hs (by omega) (by omega) g2 U0 Ul Uc
                have eb : f_X2_bestGreen U l x2 = kL_X2_bestGreen_12 l x2 20 1 (f_X2_waits U l 1 x2).1 2 (f_X2_waits U l 1 x2).2 := by
                  unfold f_X2_bestGreen
                  simp only [fz_lc]
                  rw [show Int.toNat (21 - 2) + 1 = 20 from rfl]
                have bb := zz_best_L (c := fun j => V tb (2 * j) % 256) (s := fun j => V tb (2 * j + 1) % 256) ha hc hs (show n ≤ 20 by omega) g2 20 19 1 (f_X2_waits U l 1 x2).1 2 (f_X2_waits U l 1 x2).2 (by decide) (by decide) (by decide) (by decide) w1.1
                  (by rw [w1.2 l (Ne.symm b1)]; exact U0) ⟨by rw [w1.2 l (Ne.symm b1)]; exact Ul.1, by rw [w1.2 l (Ne.symm b1)]; exact Ul.2.1, by rw [w1.2 l (Ne.symm b1)]; exact Ul.2.2⟩
                  (fun j hj => by rw [w1.2 L1 (Ne.symm b2), w1.2 L2 (Ne.symm b3)]; exact Uc j hj)
                rw [← eb] at bb
                have rr := zz_ref_L (n := n) (r := x2) (v := V) (a2 := a2) (x3 := x3) (W := zz_W (fun j => V tb (2 * j) % 256) (fun j => V tb (2 * j + 1) % 256) x2 n) (fun g hg => zz_waitsBy V3 hv2 (by omega) hg g2 hs2) 20 19 1 2 (by decide) (by decide) (by decide) (by decide)
                rw [show Int.toNat (21 - 2) + 1 = 20 from rfl, rr, ← bb.1]
                by_cases g6 : x3 = 0
                · simp only [if_pos g6]
                  have fr : ∀ q, q ≠ L3 → ∀ i, (f_X2_bestGreen U l x2).2 q i = U q i := fun q hq i => by rw [bb.2.2 q hq i, w1.2 q hq i]
                  exact (zz_waits (u := (f_X2_bestGreen U l x2).2) (g := (f_X2_bestGreen U l x2).1) ha hc hs (by omega) bb.2.1 g2 (by rw [fr l (Ne.symm b1)]; exact U0) ⟨by rw [fr l (Ne.symm b1)]; exact Ul.1, by rw [fr l (Ne.symm b1)]; exact Ul.2.1, by rw [fr l (Ne.symm b1)]; exact Ul.2.2⟩ (fun j hj => by rw [fr L1 (Ne.symm b2), fr L2 (Ne.symm b3)]; exact Uc j hj)).1
                · simp only [if_neg g6]
            · exact absurd r2 s2
          · rcases cs with ⟨s1, s2⟩ | ⟨s1, s2⟩
            · exact absurd s2 r2
            · rw [s1]
              simp only [r1, if_pos zz_00, if_true]
      simp only [if_pos g1, if_pos g2, if_neg zz_n10, if_true]
      by_cases g3 : 11 ≤ x3 ∧ x3 ≤ 30
      · have m := main (Or.inr g3)
        simp only [if_pos g3] at m
        simp only [if_pos g3, if_neg zz_n10, if_neg (show ¬ (0 ≤ x3 ∧ x3 ≤ 1) by omega), if_pos zz_00, if_true]
        exact m
      · by_cases g4 : 0 ≤ x3 ∧ x3 ≤ 1
        · have m := main (Or.inl g4)
          simp only [if_neg g3] at m
          simp only [if_neg g3, if_pos g4, if_neg zz_n10, if_pos zz_00, if_true]
          exact m
        · simp only [if_neg g3, if_neg g4, if_pos zz_00, if_true]
    · simp only [if_pos g1, if_neg g2, if_neg zz_n10, if_pos zz_00, if_true]
  · simp only [if_neg g1, if_pos zz_00, if_true]
