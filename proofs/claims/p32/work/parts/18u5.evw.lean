/-! WHAT THE LAW COMES TO: a C; the whole run -/
section Evw
variable {la bk sg vl a2 bq bc bf : Nat} {N : Int} {V : Int → Int} {u0 v0 : fx_U}
def zv_n (ra : Option Int) : Option Int := match ra with
  | some x => some (if x = 0 then 1 else 0)
  | none => none
def zv_j (c : Int) (ra rb : Option Int) : Option Int := match ra with
  | some x => if (c = 38 ∧ x = 0) ∨ (c = 124 ∧ x ≠ 0) then some x else rb
  | none => none
def zv_01 (r : Option Int) : Prop := ∀ v, r = some v → v = 0 ∨ v = 1
theorem zv_cN (hc : zv_ct la bk sg vl N V u0) {m : Nat} (hm : 1 ≤ m) {a : List (Int × Int)} {ra : Option Int} (ca : zv_cl la bk sg vl N u0 m a ra) : zv_cl la bk sg vl N u0 m (a ++ [(33, 0)]) (zv_n ra) := by
  intro F s i w st hcd h0 hN hw hs hst k0 k1 hF
  have ll : (a ++ [((33 : Int), (0 : Int))]).length = a.length + 1 := by
    rw [List.length_append]
    rfl
  rw [ll] at hN k1 hF ⊢
  obtain ⟨q1, q2⟩ := zl_cd_split _ _ s hcd
  have A := ca F s i w st q1 h0 (by omega) hw hs (by omega) k0 (by omega) (by omega)
  cases ra with
  | none => exact ⟨fun v hv => (by cases hv), fun _ => A.2 rfl⟩
  | some x =>
    obtain ⟨w1, j1, a1, a2', a3, a4⟩ := A.1 x rfl
    have e1 : u0 sg (s + (a.length : Int)).toNat = 33 := q2.1.1
    obtain ⟨G, hG⟩ : ∃ G : Nat, F - j1 = G + 1 := ⟨F - j1 - 1, by omega⟩
    obtain ⟨z, t1, t2, t3⟩ := zv_t2 (s := s + (a.length : Int)) hc a2' a3 (by omega) e1
    have go := zv_go (s := s + (a.length : Int)) (k := i + (j1 : Int)) hc a2' (by omega) (by omega) (by omega) (by rw [e1]; decide) G
    rw [t1, ← hG] at go
    have z10 : z la 10 = 0 := t2.2.1
    simp only [z10, if_true] at go
    refine ⟨fun v2 hv => ⟨z, j1 + 1, by omega, t3, ?_, ?_⟩, fun q => by cases q⟩
    · rw [← Option.some.inj hv]
      exact t2
    · rw [a4, go, show G = F - (j1 + 1) by omega, show s + (a.length : Int) + 1 = s + ((a.length + 1 : Nat) : Int) by omega, show i + (j1 : Int) + 1 = i + ((j1 + 1 : Nat) : Int) by omega]
theorem zv_dN (hr : zv_rt a2 bq bc bf V v0) {a : List (Int × Int)} {ra : Option Int} (h01 : zv_01 ra) (ca : zv_rl a2 bq bc v0 a ra) : zv_rl a2 bq bc v0 (a ++ [(33, 0)]) (zv_n ra) := by
  intro F x2 f w st hce h0 h1 hx hw hs hF
  have ll : (a ++ [((33 : Int), (0 : Int))]).length = a.length + 1 := by
    rw [List.length_append]
    rfl
  rw [ll] at h1 hF ⊢
  obtain ⟨q1, q2⟩ := zl_ce_split _ _ f hce
  have A := ca F x2 f w st q1 h0 (by omega) hx hw hs (by omega)
  cases ra with
  | none => exact ⟨fun v hv => (by cases hv), fun _ => A.2 rfl⟩
  | some x =>
    obtain ⟨w1, j1, a1, a2', a3, a4⟩ := A.1 x rfl
    obtain ⟨G, hG⟩ : ∃ G : Nat, F - j1 = G + 1 := ⟨F - j1 - 1, by omega⟩
    obtain ⟨z, t1, t2, t3⟩ := zv_r2 (x2 := x2) (f := f + (a.length : Int)) hr a2' a3 (h01 x rfl) (by omega) q2.1 G
    rw [← hG] at t1
    refine ⟨fun v2 hv => ⟨z, j1 + 1, by omega, t3, ?_, ?_⟩, fun q => by cases q⟩
    · rw [← Option.some.inj hv]
      exact t2
    · rw [a4, t1, show G = F - (j1 + 1) by omega, show f + (a.length : Int) + 1 = f + ((a.length + 1 : Nat) : Int) by omega]
      rfl
theorem zv_cJ (hc : zv_ct la bk sg vl N V u0) {c : Int} {m : Nat} (hm : 1 ≤ m) {a b : List (Int × Int)} {ra rb : Option Int} (hh : c = 38 ∨ c = 124) (ca : zv_cl la bk sg vl N u0 m a ra) (cb : zv_cl la bk sg vl N u0 m b rb) : zv_cl la bk sg vl N u0 m (a ++ (c, (b.length : Int) + 1) :: b) (zv_j c ra rb) := by
  intro F s i w st hcd h0 hN hw hs hst k0 k1 hF
  have ll : (a ++ (c, (b.length : Int) + 1) :: b).length = a.length + b.length + 1 := by
    rw [List.length_append, List.length_cons]
    omega
  rw [ll] at hN k1 hF ⊢
  obtain ⟨q1, q2⟩ := zl_cd_split _ _ s hcd
  have A := ca F s i w st q1 h0 (by omega) hw hs (by omega) k0 (by omega) (by omega)
  cases ra with
  | none => exact ⟨fun v hv => (by cases hv), fun _ => A.2 rfl⟩
  | some x =>
    obtain ⟨w1, j1, a1, a2', a3, a4⟩ := A.1 x rfl
    have e1 : u0 sg (s + (a.length : Int)).toNat = c := q2.1.1
    have e2 : u0 vl (s + (a.length : Int)).toNat = s + (a.length : Int) + ((b.length : Int) + 1) := by
      have z := q2.1.2
      have zv : zl_v (s + (a.length : Int)) (c, (b.length : Int) + 1) = s + (a.length : Int) + ((b.length : Int) + 1) := by
        show (if c = 38 ∨ c = 124 then s + (a.length : Int) + ((b.length : Int) + 1) else (b.length : Int) + 1) = _
        rw [if_pos hh]
      rw [zv] at z
      exact z
    obtain ⟨G, hG⟩ : ∃ G : Nat, F - j1 = G + 1 := ⟨F - j1 - 1, by omega⟩
    obtain ⟨z, t3, t4⟩ := zv_t3 (s := s + (a.length : Int)) hc a2' a3 (by omega) hh e1 e2
    have go := zv_go (s := s + (a.length : Int)) (k := i + (j1 : Int)) hc a2' (by omega) (by omega) (by omega) (by rw [e1]; omega) G
    show (∀ v, (if (c = 38 ∧ x = 0) ∨ (c = 124 ∧ x ≠ 0) then some x else rb) = some v → _) ∧ ((if (c = 38 ∧ x = 0) ∨ (c = 124 ∧ x ≠ 0) then some x else rb) = none → _)
    by_cases g : (c = 38 ∧ x = 0) ∨ (c = 124 ∧ x ≠ 0)
    · rw [if_pos g] at t4 ⊢
      obtain ⟨t1, t2⟩ := t4
      rw [t1, ← hG] at go
      have z10 : z la 10 = 0 := t2.2.1
      simp only [z10, if_true] at go
      refine ⟨fun v2 hv => ⟨z, j1 + 1, by omega, t3, ?_, ?_⟩, fun q => by cases q⟩
      · rw [← Option.some.inj hv]
        exact t2
      · rw [a4, go, show G = F - (j1 + 1) by omega, show s + (a.length : Int) + ((b.length : Int) + 1) = s + ((a.length + b.length + 1 : Nat) : Int) by omega, show i + (j1 : Int) + 1 = i + ((j1 + 1 : Nat) : Int) by omega]
    · rw [if_neg g] at t4 ⊢
      obtain ⟨t1, t2⟩ := t4
      rw [t1, ← hG] at go
      have z10 : z la 10 = 0 := t2.2.1
      simp only [z10, if_true] at go
      have B := cb G (s + (a.length : Int) + 1) (i + (j1 : Int) + 1) z st q2.2 (by omega) (by omega) t3 t2 (by omega) (by omega) (by omega) (by omega)
      refine ⟨fun v2 hv => ?_, fun q => ?_⟩
      · obtain ⟨w2, j2, b1, b2, b3, b4⟩ := B.1 v2 hv
        refine ⟨w2, j1 + 1 + j2, by omega, b2, b3, ?_⟩
        rw [a4, go, b4, show G - j2 = F - (j1 + 1 + j2) by omega, show s + (a.length : Int) + 1 + (b.length : Int) = s + ((a.length + b.length + 1 : Nat) : Int) by omega, show i + (j1 : Int) + 1 + (j2 : Int) = i + ((j1 + 1 + j2 : Nat) : Int) by omega]
      · obtain ⟨w2, b1, b2⟩ := B.2 q
        exact ⟨w2, b1, a4.trans (go.trans b2)⟩
theorem zv_dJ (hr : zv_rt a2 bq bc bf V v0) {c : Int} {a b : List (Int × Int)} {ra rb : Option Int} (h01 : zv_01 ra) (hh : c = 38 ∨ c = 124) (ca : zv_rl a2 bq bc v0 a ra) (cb : zv_rl a2 bq bc v0 b rb) : zv_rl a2 bq bc v0 (a ++ (c, (b.length : Int) + 1) :: b) (zv_j c ra rb) := by
  intro F x2 f w st hce h0 h1 hx hw hs hF
  have ll : (a ++ (c, (b.length : Int) + 1) :: b).length = a.length + b.length + 1 := by
    rw [List.length_append, List.length_cons]
    omega
  rw [ll] at h1 hF ⊢
  obtain ⟨q1, q2⟩ := zl_ce_split _ _ f hce
  have A := ca F x2 f w st q1 h0 (by omega) hx hw hs (by omega)
  cases ra with
  | none => exact ⟨fun v hv => (by cases hv), fun _ => A.2 rfl⟩
  | some x =>
    obtain ⟨w1, j1, a1, a2', a3, a4⟩ := A.1 x rfl
    obtain ⟨G, hG⟩ : ∃ G : Nat, F - j1 = G + 1 := ⟨F - j1 - 1, by omega⟩
    have t1 := zv_r3 (x2 := x2) (f := f + (a.length : Int)) (L := (b.length : Int) + 1) hr a2' a3 (h01 x rfl) hh (by omega) (by omega) ⟨by omega, by omega⟩ q2.1 G
    rw [← hG] at t1
    show (∀ v, (if (c = 38 ∧ x = 0) ∨ (c = 124 ∧ x ≠ 0) then some x else rb) = some v → _) ∧ ((if (c = 38 ∧ x = 0) ∨ (c = 124 ∧ x ≠ 0) then some x else rb) = none → _)
    by_cases g : (c = 38 ∧ x = 0) ∨ (c = 124 ∧ x ≠ 0)
    · rw [if_pos g] at t1 ⊢
      refine ⟨fun v2 hv => ⟨w1, j1 + 1, by omega, a2', ?_, ?_⟩, fun q => by cases q⟩
      · rw [← Option.some.inj hv]
        exact a3
      · rw [a4, t1, show G = F - (j1 + 1) by omega, show f + (a.length : Int) + ((b.length : Int) + 1) = f + ((a.length + b.length + 1 : Nat) : Int) by omega]
        rfl
    · rw [if_neg g] at t1 ⊢
      have B := cb G x2 (f + (a.length : Int) + 1) w1 st q2.2 (by omega) (by omega) hx a2' a3.2 (by omega)
      refine ⟨fun v2 hv => ?_, fun q => ?_⟩
      · obtain ⟨w2, j2, b1, b2, b3, b4⟩ := B.1 v2 hv
        refine ⟨w2, j1 + 1 + j2, by omega, b2, b3, ?_⟩
        rw [a4, t1, b4, show G - j2 = F - (j1 + 1 + j2) by omega, show f + (a.length : Int) + 1 + (b.length : Int) = f + ((a.length + b.length + 1 : Nat) : Int) by omega]
      · obtain ⟨w2, b1, b2⟩ := B.2 q
        exact ⟨w2, b1, a4.trans (t1.trans b2)⟩
theorem zv_rk01 {c x y v : Int} (hc : c = 60 ∨ c = 62 ∨ c = 61) (e : zv_rk c x y = some v) : v = 0 ∨ v = 1 := by
  unfold zv_rk at e
  rcases hc with rfl | rfl | rfl
  · have z : (if x < y then (1 : Int) else 0) = v := Option.some.inj e
    rw [← z]
    by_cases q : x < y
    · rw [if_pos q]
      exact Or.inr rfl
    · rw [if_neg q]
      exact Or.inl rfl
  · have z : (if y < x then (1 : Int) else 0) = v := Option.some.inj e
    rw [← z]
    by_cases q : y < x
    · rw [if_pos q]
      exact Or.inr rfl
    · rw [if_neg q]
      exact Or.inl rfl
  · have z : (if x = y then (1 : Int) else 0) = v := Option.some.inj e
    rw [← z]
    by_cases q : x = y
    · rw [if_pos q]
      exact Or.inr rfl
    · rw [if_neg q]
      exact Or.inl rfl
/-- a C -/
theorem zv_bC (hc : zv_ct la bk sg vl N V u0) (hr : zv_rt a2 bq bc bf V v0) {L : List (Int × Int)} (h : zv_C L) : ∃ r : Option Int, zv_01 r ∧ zv_cl la bk sg vl N u0 16 L r ∧ zv_rl a2 bq bc v0 L r := by
  refine h (fun L => ∃ r : Option Int, zv_01 r ∧ zv_cl la bk sg vl N u0 16 L r ∧ zv_rl a2 bq bc v0 L r) ?_ ?_ ?_
  · intro p q a b c ha hb hk h1 h2
    obtain ⟨ra, ca, da⟩ := zv_bE hc hr ha
    obtain ⟨rb, cb, db⟩ := zv_bE hc hr hb
    refine ⟨_, fun v hv => ?_, zv_c2 hc (by omega) h1 h2 ca cb, zv_d2 hr (by omega) da db⟩
    cases ra with
    | none => cases hv
    | some x =>
      cases rb with
      | none => cases hv
      | some y => exact zv_rk01 hk hv
  · intro a iha
    obtain ⟨ra, oa, ca, da⟩ := iha
    refine ⟨_, fun v hv => ?_, zv_cN hc (by decide) ca, zv_dN hr oa da⟩
    cases ra with
    | none => cases hv
    | some x =>
      have z : (if x = 0 then (1 : Int) else 0) = v := Option.some.inj hv
      rw [← z]
      by_cases q : x = 0
      · rw [if_pos q]
        exact Or.inr rfl
      · rw [if_neg q]
        exact Or.inl rfl
  · intro a b c iha ihb hk
    obtain ⟨ra, oa, ca, da⟩ := iha
    obtain ⟨rb, ob, cb, db⟩ := ihb
    refine ⟨_, fun v hv => ?_, zv_cJ hc (by decide) hk ca cb, zv_dJ hr oa hk da db⟩
    cases ra with
    | none => cases hv
    | some x =>
      have z : (if _ then some x else rb) = some v := hv
      split at z
      · exact oa v (z ▸ rfl)
      · exact ob v z
end Evw
