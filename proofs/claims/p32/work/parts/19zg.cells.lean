/-! THE NIGHT: a road's cells, and a road as the constructor leaves it -/
def zw_k : List (Nat × Nat) := [(6, 1), (118, 64), (118, 64), (118, 64), (119, 64), (120, 64), (121, 64), (122, 64), (123, 64), (210, 2), (124, 2), (125, 2), (126, 2), (127, 12), (128, 12)]
def zw_T (τ : q_T) (N : Nat → Nat) : Prop := ∀ j : Nat, j ≤ 14 → τ (N j) = some (zw_k.getD j (0, 0))
def zw_ap (N M : Nat → Nat) : Prop := ∀ k j : Nat, k ≤ 14 → j ≤ 14 → N k ≠ M j
theorem zw_ne {τ : q_T} {N : Nat → Nat} {c : Nat} {x : Nat × Nat} (T : zw_T τ N) (hc : τ c = some x) (hx : ∀ j : Nat, j ≤ 14 → zw_k.getD j (0, 0) ≠ x) : ∀ j : Nat, j ≤ 14 → N j ≠ c := fun j hj => zz_neT (T j hj) hc (hx j hj)
theorem zw_ap.sy {N M : Nat → Nat} (h : zw_ap N M) : zw_ap M N := fun k j hk hj => Ne.symm (h j k hj hk)
theorem zw_nx {x : Nat × Nat} (hx : (zw_k.all fun y => !(y == x)) = true) : ∀ j : Nat, j ≤ 14 → zw_k.getD j (0, 0) ≠ x := by
  intro j hj e
  have h : zw_k.getD j (0, 0) ∈ zw_k := by
    rw [List.getD_eq_getElem?_getD, List.getElem?_eq_getElem (show j < zw_k.length from by show j < 15; omega)]
    exact List.getElem_mem _
  have := List.all_eq_true.mp hx _ h
  rw [e] at this
  simp at this
theorem zw_dis {τ : q_T} {N : Nat → Nat} (T : zw_T τ N) (n12 : N 1 ≠ N 2) (n13 : N 1 ≠ N 3) (n23 : N 2 ≠ N 3) : zp_dis 15 N := by
  have kb : ((List.range 15).all fun i => (List.range 15).all fun j => decide (i = j) || decide (zw_k.getD i (0, 0) ≠ zw_k.getD j (0, 0)) || (decide (i = 1 ∨ i = 2 ∨ i = 3) && decide (j = 1 ∨ j = 2 ∨ j = 3))) = true := by decide
  have k : ∀ i : Nat, i < 15 → ∀ j : Nat, j < 15 → i ≠ j → (zw_k.getD i (0, 0) ≠ zw_k.getD j (0, 0) ∨ ((i = 1 ∨ i = 2 ∨ i = 3) ∧ (j = 1 ∨ j = 2 ∨ j = 3))) := by
    intro i hi j hj hn
    have h1 := List.all_eq_true.mp (List.all_eq_true.mp kb i (List.mem_range.mpr hi)) j (List.mem_range.mpr hj)
    rw [Bool.or_eq_true, Bool.or_eq_true, Bool.and_eq_true, decide_eq_true_eq, decide_eq_true_eq, decide_eq_true_eq, decide_eq_true_eq] at h1
    rcases h1 with (h | h) | h
    · exact absurd h hn
    · exact Or.inl h
    · exact Or.inr h
  intro i j hi hj hn
  rcases k i hi j hj hn with h | ⟨h1, h2⟩
  · exact zz_neT (T i (by omega)) (T j (by omega)) h
  · rcases h1 with rfl | rfl | rfl <;> rcases h2 with rfl | rfl | rfl
    · exact absurd rfl hn
    · exact n12
    · exact n13
    · exact Ne.symm n12
    · exact absurd rfl hn
    · exact n23
    · exact Ne.symm n13
    · exact Ne.symm n23
    · exact absurd rfl hn
/-- as it is made -/
def zw_0 (N : Nat → Nat) (u : fx_U) : Prop := (u (N 0) 0 = 16 ∧ u (N 0) 15 = 64 ∧ u (N 0) 16 = -1 ∧ u (N 0) 17 = 0) ∧ (∀ j : Nat, j < 64 → u (N 4) j = -100 ∧ u (N 5) j = -100 ∧ u (N 8) j = -2) ∧ (∀ a : Nat, a < 2 → u (N 9) a = 0 ∧ u (N 10) a = -2 ∧ u (N 12) a = 0) ∧ ∀ c : Nat, c < 12 → u (N 13) c = -1 ∧ u (N 14) c = -1
def zw_M (τ : q_T) (N : Nat → Nat) (u : fx_U) : Prop := zw_T τ N ∧ zp_dis 15 N ∧ zn_P N u ∧ zw_0 N u
/-- the reference's row as it is made -/
def zw_1 (b : Nat) (v : fx_U) : Prop := (v b 512 = 16 ∧ v b 513 = 0 ∧ v b 514 = 64 ∧ v b 515 = -2) ∧ (∀ j : Nat, j < 64 → v b (192 + j) = -100 ∧ v b (320 + j) = -2 ∧ v b (448 + j) = -2) ∧ (∀ a : Nat, a < 2 → v b (516 + a) = 0 ∧ v b (518 + a) = 0 ∧ v b (520 + a) = -2) ∧ v b 524 = 0
section Made
variable {τ τ1 : q_T} {σ σ1 : q_V} {N M : Nat → Nat} {a k : Nat} {u w : fx_U}
theorem zw_M.mv (h : zw_M τ N u) (t : zw_T τ1 N) (f : ∀ j : Nat, j ≤ 14 → ∀ i : Nat, w (N j) i = u (N j) i) : zw_M τ1 N w := by
  obtain ⟨-, d, p, ⟨a0, a1, a2, a3⟩, r, q, c⟩ := h
  refine ⟨t, d, fun j j1 j2 => (f 0 (by decide) j).trans (p j j1 j2), ⟨(f 0 (by decide) 0).trans a0, (f 0 (by decide) 15).trans a1, (f 0 (by decide) 16).trans a2, (f 0 (by decide) 17).trans a3⟩, fun j hj => ?_, fun i hi => ?_, fun i hi => ?_⟩
  · rw [f 4 (by decide), f 5 (by decide), f 8 (by decide)]
    exact r j hj
  · rw [f 9 (by decide), f 10 (by decide), f 12 (by decide)]
    exact q i hi
  · rw [f 13 (by decide), f 14 (by decide)]
    exact c i hi
theorem zw_sz : ∀ j : Nat, j ≤ 14 → (zw_k.getD j (0, 0)).2 ≠ 0 := by
  have k : ∀ j : Nat, j < 15 → (zw_k.getD j (0, 0)).2 ≠ 0 := by decide
  exact fun j hj => k j (by omega)
theorem zw_T.nr (t : zw_T τ N) (ta : τ a = some (k, 0)) : ∀ j : Nat, j ≤ 14 → N j ≠ a := fun j hj e => by
  have h := t j hj
  rw [e, ta] at h
  exact zw_sz j hj (congrArg Prod.snd (Option.some.inj h)).symm
theorem zw_M.new (h : zw_M τ N (fx_N σ)) (x : ∀ (b : Nat) (x : Nat × Nat), τ b = some x → τ1 b = some x ∧ σ1 b = σ b) : zw_M τ1 N (fx_N σ1) := h.mv (fun j hj => (x _ _ (h.1 j hj)).1) (fun j hj i => congrArg fx_num (congrFun (x _ _ (h.1 j hj)).2 i))
theorem zw_M.put (h : zw_M τ N (fx_N σ)) (x : ∀ b, b ≠ a → σ1 b = σ b) (ta : τ a = some (k, 0)) : zw_M τ N (fx_N σ1) := h.mv h.1 (fun j hj i => congrArg fx_num (congrFun (x _ (h.1.nr ta j hj)) i))
theorem zw_M.call {Q : Nat → Nat × Nat → Prop} (h : zw_M τ N (fx_N σ)) (x : ∀ (b : Nat) (x : Nat × Nat), b ≠ a → τ b = some x → τ1 b = some x ∧ Q b x) (e : ∀ (b : Nat) (x : Nat × Nat), b ≠ a → τ b = some x → ∀ i : Nat, fx_N σ1 b i = fx_N σ b i) (ta : τ a = some (k, 0)) : zw_M τ1 N (fx_N σ1) := h.mv (fun j hj => (x _ _ (h.1.nr ta j hj) (h.1 j hj)).1) (fun j hj i => e _ _ (h.1.nr ta j hj) (h.1 j hj) i)
theorem zw_M.ap (t : zw_T τ M) (n0 : N 0 = a) (ta : τ a = some (k, 0)) (nn : ∀ j : Nat, 1 ≤ j → j ≤ 14 → τ (N j) = none) : zw_ap M N := fun i j hi hj e => by
  by_cases z : j = 0
  · rw [z, n0] at e
    exact t.nr ta i hi e
  · have h := t i hi
    rw [e, nn j (by omega) hj] at h
    cases h
end Made
theorem zz_NRc {σ : q_V} {a j b : Nat} (h : σ a j = .ref b) : fx_N σ a j = (b : Int) := congrArg fx_num h
theorem zz_N0c {σ : q_V} {a j : Nat} (h : σ a j = .int 0) : fx_N σ a j = 0 := (congrArg fx_num h).trans tl_0
theorem zz_Nc64 {σ : q_V} {a j : Nat} (h : σ a j = .int 64) : fx_N σ a j = 64 := (congrArg fx_num h).trans tl_64
theorem zz_Ncm1 {σ : q_V} {a j : Nat} (h : σ a j = .int (-1)) : fx_N σ a j = -1 := (congrArg fx_num h).trans tl_m1
def zw_15 (k0 k1 k2 k3 k4 k5 k6 k7 k8 k9 k10 k11 k12 k13 k14 i : Nat) : Nat := if i = 0 then k0 else if i = 1 then k1 else if i = 2 then k2 else if i = 3 then k3 else if i = 4 then k4 else if i = 5 then k5 else if i = 6 then k6 else if i = 7 then k7 else if i = 8 then k8 else if i = 9 then k9 else if i = 10 then k10 else if i = 11 then k11 else if i = 12 then k12 else if i = 13 then k13 else k14
theorem zw_15A {k0 k1 k2 k3 k4 k5 k6 k7 k8 k9 k10 k11 k12 k13 k14 : Nat} {P : Nat → Nat → Prop} (h1 : P 1 k1) (h2 : P 2 k2) (h3 : P 3 k3) (h4 : P 4 k4) (h5 : P 5 k5) (h6 : P 6 k6) (h7 : P 7 k7) (h8 : P 8 k8) (h9 : P 9 k9) (h10 : P 10 k10) (h11 : P 11 k11) (h12 : P 12 k12) (h13 : P 13 k13) (h14 : P 14 k14) : ∀ j : Nat, 1 ≤ j → j ≤ 14 → P j (zw_15 k0 k1 k2 k3 k4 k5 k6 k7 k8 k9 k10 k11 k12 k13 k14 j) := by
  intro j j1 j2
  rcases (show j = 1 ∨ j = 2 ∨ j = 3 ∨ j = 4 ∨ j = 5 ∨ j = 6 ∨ j = 7 ∨ j = 8 ∨ j = 9 ∨ j = 10 ∨ j = 11 ∨ j = 12 ∨ j = 13 ∨ j = 14 by omega) with rfl | rfl | rfl | rfl | rfl | rfl | rfl | rfl | rfl | rfl | rfl | rfl | rfl | rfl
  · exact h1
  · exact h2
  · exact h3
  · exact h4
  · exact h5
  · exact h6
  · exact h7
  · exact h8
  · exact h9
  · exact h10
  · exact h11
  · exact h12
  · exact h13
  · exact h14
theorem zw_15T {τ : q_T} {N : Nat → Nat} (h0 : τ (N 0) = some (6, 1)) (h : ∀ j : Nat, 1 ≤ j → j ≤ 14 → τ (N j) = some (zw_k.getD j (0, 0))) : zw_T τ N := fun j hj => by
  by_cases z : j = 0
  · rw [z]
    exact h0
  · exact h j (by omega) hj
