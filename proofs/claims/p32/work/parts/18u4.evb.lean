/-! WHAT THE LAW COMES TO: both come to the same -/
def zv_cl (la bk sg vl : Nat) (N : Int) (u0 : fx_U) (h : Nat) (L : List (Int × Int)) (r : Option Int) : Prop := ∀ (F : Nat) (s k : Int) (w : fx_U) (st : List Int), zl_cd sg vl u0 s L → 0 ≤ s → s + (L.length : Int) ≤ N → zv_fe la bk u0 w → zv_cs la bk w st → st.length + h ≤ 32 → 0 ≤ k → k + (L.length : Int) ≤ N → L.length < F →
  (∀ v, r = some v → ∃ (w2 : fx_U) (j : Nat), j ≤ L.length ∧ zv_fe la bk u0 w2 ∧ zv_cs la bk w2 (v :: st) ∧ kL_X3_run_14 la F s k w = kL_X3_run_14 la (F - j) (s + (L.length : Int)) (k + (j : Int)) w2) ∧ (r = none → ∃ w2 : fx_U, zv_fe la bk u0 w2 ∧ kL_X3_run_14 la F s k w = (0, w2))
def zv_rl (a2 bk bc : Nat) (v0 : fx_U) (L : List (Int × Int)) (r : Option Int) : Prop := ∀ (F : Nat) (x2 f : Int) (w : fx_U) (st : List Int), zl_ce bc v0 f L → 0 ≤ f → f + (L.length : Int) ≤ x2 → x2 < 1048576 → zv_fr bk v0 w → zv_sk bk w st → L.length < F →
  (∀ v, r = some v → ∃ (w2 : fx_U) (j : Nat), j ≤ L.length ∧ zv_fr bk v0 w2 ∧ zv_sk bk w2 (v :: st) ∧ kL_X12_comesTo_16 x2 bc bk a2 0 F (st.length : Int) f w = kL_X12_comesTo_16 x2 bc bk a2 0 (F - j) ((v :: st).length : Int) (f + (L.length : Int)) w2) ∧ (r = none → ∃ w2 : fx_U, zv_fr bk v0 w2 ∧ kL_X12_comesTo_16 x2 bc bk a2 0 F (st.length : Int) f w = (0, w2))
section Evb
variable {la bk sg vl a2 bq bc bf : Nat} {N : Int} {V : Int → Int} {u0 v0 : fx_U}
theorem zl_cd_split {u : fx_U} : ∀ (a b : List (Int × Int)) (s : Int), zl_cd sg vl u s (a ++ b) → zl_cd sg vl u s a ∧ zl_cd sg vl u (s + (a.length : Int)) b
  | [], b, s, h => by
    have e : s + (([] : List (Int × Int)).length : Int) = s := by
      show s + ((0 : Nat) : Int) = s
      omega
    rw [e]
    exact ⟨True.intro, h⟩
  | c :: cs, b, s, h => by
    obtain ⟨h1, h2⟩ := zl_cd_split cs b (s + 1) h.2
    have e : s + ((c :: cs).length : Int) = s + 1 + (cs.length : Int) := by
      rw [List.length_cons]
      omega
    rw [e]
    exact ⟨⟨h.1, h1⟩, h2⟩
theorem zl_ce_split {u : fx_U} : ∀ (a b : List (Int × Int)) (s : Int), zl_ce bc u s (a ++ b) → zl_ce bc u s a ∧ zl_ce bc u (s + (a.length : Int)) b
  | [], b, s, h => by
    have e : s + (([] : List (Int × Int)).length : Int) = s := by
      show s + ((0 : Nat) : Int) = s
      omega
    rw [e]
    exact ⟨True.intro, h⟩
  | c :: cs, b, s, h => by
    obtain ⟨h1, h2⟩ := zl_ce_split cs b (s + 1) h.2
    have e : s + ((c :: cs).length : Int) = s + 1 + (cs.length : Int) := by
      rw [List.length_cons]
      omega
    rw [e]
    exact ⟨⟨h.1, h1⟩, h2⟩
/-- one step, then as said -/
theorem zv_c1 (hc : zv_ct la bk sg vl N V u0) {c x : Int} {m : Nat} (hm : 1 ≤ m) (h : (c = 48) ∨ (c = 105 ∧ zl_fo x ≠ -1)) : zv_cl la bk sg vl N u0 m [(c, x)] (some (if c = 48 then x else V x)) := by
  intro F s k w st hcd h0 h1 hw hs hst k0 k1 hF
  have l1 : (([(c, x)] : List (Int × Int)).length : Int) = 1 := rfl
  have l2 : ([(c, x)] : List (Int × Int)).length = 1 := rfl
  obtain ⟨G, rfl⟩ : ∃ G : Nat, F = G + 1 := ⟨F - 1, by omega⟩
  have e1 : u0 sg s.toNat = c := hcd.1.1
  have e2 : u0 vl s.toNat = x := by
    have z := hcd.1.2
    have zv : zl_v s (c, x) = x := by
      show (if c = 38 ∨ c = 124 then s + x else x) = x
      rw [if_neg (by omega)]
    rw [zv] at z
    exact z
  obtain ⟨y, t1, t2, t3⟩ := zv_t1 hc hw hs (by omega) e1 e2 h
  have go := zv_go (s := s) (k := k) hc hw h0 (by omega) (by omega) (by rw [e1]; omega) G
  rw [t1] at go
  have y10 : y la 10 = 0 := t2.2.1
  simp only [y10, if_true] at go
  refine ⟨fun v hv => ⟨y, 1, Nat.le_of_eq l2.symm, t3, ?_, ?_⟩, fun z => by cases z⟩
  · rw [← Option.some.inj hv]
    exact t2
  · rw [l1]
    exact go
theorem zv_d1 (hr : zv_rt a2 bq bc bf V v0) {c x : Int} (h : (c = 48 ∧ 0 ≤ x ∧ x < 1048576) ∨ (c = 105 ∧ zl_fo x ≠ -1)) : zv_rl a2 bq bc v0 [(c, x)] (some (if c = 48 then x else V x)) := by
  intro F x2 f w st hce h0 h1 hx hw hs hF
  have l1 : (([(c, x)] : List (Int × Int)).length : Int) = 1 := rfl
  have l2 : ([(c, x)] : List (Int × Int)).length = 1 := rfl
  obtain ⟨G, rfl⟩ : ∃ G : Nat, F = G + 1 := ⟨F - 1, by omega⟩
  obtain ⟨y, t1, t2, t3⟩ := zv_r1 (x2 := x2) (f := f) hr hw hs (by omega) h hce.1 G
  refine ⟨fun v hv => ⟨y, 1, Nat.le_of_eq l2.symm, t3, ?_, ?_⟩, fun z => by cases z⟩
  · rw [← Option.some.inj hv]
    exact t2
  · rw [l1, List.length_cons]
    exact t1
def zv_r2o (c : Int) (ra rb : Option Int) : Option Int := match ra, rb with
  | some x, some y => zv_rk c x y
  | _, _ => none
/-- two, and a sign -/
theorem zv_c2 (hc : zv_ct la bk sg vl N V u0) {c : Int} {h k m : Nat} {a b : List (Int × Int)} {ra rb : Option Int} (hh : c = 43 ∨ c = 45 ∨ c = 42 ∨ c = 47 ∨ c = 37 ∨ c = 60 ∨ c = 62 ∨ c = 61) (h1 : h ≤ m) (h2 : k + 1 ≤ m) (ca : zv_cl la bk sg vl N u0 h a ra) (cb : zv_cl la bk sg vl N u0 k b rb) : zv_cl la bk sg vl N u0 m (a ++ b ++ [(c, 0)]) (zv_r2o c ra rb) := by
  intro F s i w st hcd h0 hN hw hs hst k0 k1 hF
  have ll : (a ++ b ++ [(c, (0 : Int))]).length = a.length + b.length + 1 := by
    rw [List.length_append, List.length_append]
    rfl
  rw [ll] at hN k1 hF ⊢
  obtain ⟨q1, q2⟩ := zl_cd_split _ _ s hcd
  obtain ⟨q3, q4⟩ := zl_cd_split _ _ s q1
  rw [List.length_append] at q2
  have A := ca F s i w st q3 h0 (by omega) hw hs (by omega) k0 (by omega) (by omega)
  cases ra with
  | none =>
    refine ⟨fun v hv => ?_, fun _ => A.2 rfl⟩
    cases hv
  | some x =>
    obtain ⟨w1, j1, a1, a2', a3, a4⟩ := A.1 x rfl
    have B := cb (F - j1) (s + (a.length : Int)) (i + (j1 : Int)) w1 (x :: st) q4 (by omega) (by omega) a2' a3 (by rw [List.length_cons]; omega) (by omega) (by omega) (by omega)
    cases rb with
    | none =>
      refine ⟨fun v hv => ?_, fun _ => ?_⟩
      · cases hv
      · obtain ⟨w2, b1, b2⟩ := B.2 rfl
        exact ⟨w2, b1, a4.trans b2⟩
    | some y =>
      obtain ⟨w2, j2, b1, b2, b3, b4⟩ := B.1 y rfl
      have e1 : u0 sg (s + (a.length : Int) + (b.length : Int)).toNat = c := by
        have z := q2.1.1
        rw [show s + ((a.length + b.length : Nat) : Int) = s + (a.length : Int) + (b.length : Int) by omega] at z
        exact z
      obtain ⟨G, hG⟩ : ∃ G : Nat, F - j1 - j2 = G + 1 := ⟨F - j1 - j2 - 1, by omega⟩
      obtain ⟨z, t1, t2, t3⟩ := zv_t4 (s := s + (a.length : Int) + (b.length : Int)) hc b2 b3 (by omega) hh e1
      have go := zv_go (s := s + (a.length : Int) + (b.length : Int)) (k := i + (j1 : Int) + (j2 : Int)) hc b2 (by omega) (by omega) (by omega) (by rw [e1]; omega) G
      rw [t1, ← hG] at go
      have all := a4.trans b4
      show (∀ v, zv_rk c x y = some v → _) ∧ (zv_rk c x y = none → _)
      cases e : zv_rk c x y with
      | some v =>
        rw [e] at t3
        have z10 : z la 10 = 0 := t3.2.1
        simp only [z10, if_true] at go
        refine ⟨fun v2 hv => ⟨z, j1 + j2 + 1, by omega, t2, ?_, ?_⟩, fun q => by cases q⟩
        · rw [← Option.some.inj hv]
          exact t3
        · rw [all, go, show G = F - (j1 + j2 + 1) by omega, show s + (a.length : Int) + (b.length : Int) + 1 = s + ((a.length + b.length + 1 : Nat) : Int) by omega, show i + (j1 : Int) + (j2 : Int) + 1 = i + ((j1 + j2 + 1 : Nat) : Int) by omega]
      | none =>
        rw [e] at t3
        have z10 : ¬ z la 10 = 0 := by
          rw [show z la 10 = 1 from t3]
          decide
        simp only [if_neg z10] at go
        refine ⟨fun v2 hv => (by cases hv), fun _ => ⟨z, t2, all.trans go⟩⟩
theorem zv_d2 (hr : zv_rt a2 bq bc bf V v0) {c : Int} {a b : List (Int × Int)} {ra rb : Option Int} (hh : c = 43 ∨ c = 45 ∨ c = 42 ∨ c = 47 ∨ c = 37 ∨ c = 60 ∨ c = 62 ∨ c = 61) (ca : zv_rl a2 bq bc v0 a ra) (cb : zv_rl a2 bq bc v0 b rb) : zv_rl a2 bq bc v0 (a ++ b ++ [(c, 0)]) (zv_r2o c ra rb) := by
  intro F x2 f w st hce h0 h1 hx hw hs hF
  have ll : (a ++ b ++ [(c, (0 : Int))]).length = a.length + b.length + 1 := by
    rw [List.length_append, List.length_append]
    rfl
  rw [ll] at h1 hF ⊢
  obtain ⟨q1, q2⟩ := zl_ce_split _ _ f hce
  obtain ⟨q3, q4⟩ := zl_ce_split _ _ f q1
  rw [List.length_append] at q2
  have A := ca F x2 f w st q3 h0 (by omega) hx hw hs (by omega)
  cases ra with
  | none =>
    refine ⟨fun v hv => ?_, fun _ => A.2 rfl⟩
    cases hv
  | some x =>
    obtain ⟨w1, j1, a1, a2', a3, a4⟩ := A.1 x rfl
    have B := cb (F - j1) x2 (f + (a.length : Int)) w1 (x :: st) q4 (by omega) (by omega) hx a2' a3 (by omega)
    cases rb with
    | none =>
      refine ⟨fun v hv => ?_, fun _ => ?_⟩
      · cases hv
      · obtain ⟨w2, b1, b2⟩ := B.2 rfl
        exact ⟨w2, b1, a4.trans b2⟩
    | some y =>
      obtain ⟨w2, j2, b1, b2, b3, b4⟩ := B.1 y rfl
      have fe : f + ((a.length + b.length : Nat) : Int) = f + (a.length : Int) + (b.length : Int) := by omega
      rw [fe] at q2
      obtain ⟨G, hG⟩ : ∃ G : Nat, F - j1 - j2 = G + 1 := ⟨F - j1 - j2 - 1, by omega⟩
      obtain ⟨z, t2, t3⟩ := zv_r4 (x2 := x2) (f := f + (a.length : Int) + (b.length : Int)) hr b2 b3 (by omega) hh q2.1 G
      rw [← hG] at t3
      have all := a4.trans b4
      show (∀ v, zv_rk c x y = some v → _) ∧ (zv_rk c x y = none → _)
      cases e : zv_rk c x y with
      | some v =>
        rw [e] at t3
        obtain ⟨t3, t4⟩ := t3
        refine ⟨fun v2 hv => ⟨z, j1 + j2 + 1, by omega, t2, ?_, ?_⟩, fun q => by cases q⟩
        · rw [← Option.some.inj hv]
          exact t4
        · rw [all, t3, show G = F - (j1 + j2 + 1) by omega, show f + (a.length : Int) + (b.length : Int) + 1 = f + ((a.length + b.length + 1 : Nat) : Int) by omega]
          rfl
      | none =>
        rw [e] at t3
        exact ⟨fun v2 hv => (by cases hv), fun _ => ⟨z, t2, all.trans t3⟩⟩
/-- an E -/
theorem zv_bE (hc : zv_ct la bk sg vl N V u0) (hr : zv_rt a2 bq bc bf V v0) {m : Nat} {L : List (Int × Int)} (h : zv_E m L) : ∃ r : Option Int, zv_cl la bk sg vl N u0 m L r ∧ zv_rl a2 bq bc v0 L r := by
  refine h (fun m L => ∃ r : Option Int, zv_cl la bk sg vl N u0 m L r ∧ zv_rl a2 bq bc v0 L r) ?_ ?_ ?_
  · intro m v hm hv
    exact ⟨_, zv_c1 hc hm (Or.inl rfl), zv_d1 hr (Or.inl ⟨rfl, hv⟩)⟩
  · intro m x hm hx
    exact ⟨_, zv_c1 hc hm (Or.inr ⟨rfl, hx⟩), zv_d1 hr (Or.inr ⟨rfl, hx⟩)⟩
  · intro m p q a b c iha ihb hk h1 h2
    obtain ⟨ra, ca, da⟩ := iha
    obtain ⟨rb, cb, db⟩ := ihb
    exact ⟨_, zv_c2 hc (by omega) h1 h2 ca cb, zv_d2 hr (by omega) da db⟩
end Evb
