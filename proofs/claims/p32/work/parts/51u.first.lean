/-! THE NIGHT: the road of the class and the row of the reference, as they are made -/
section First
variable {τ : q_T} {σ σ1 : q_V} {N : Nat → Nat} {a2 b : Nat} {u v w : fx_U}
theorem zw_M.tu {a k : Nat} {y : Nat × Nat} (h : zw_M τ N u) (ta : τ a = some (k, 0)) : zw_M (q_tu τ a y) N u := h.mv (fun j hj => (q_tu_ne (h.1.nr ta j hj)).trans (h.1 j hj)) (fun _ _ _ => rfl)
theorem zw_tl (dN : zp_dis 15 N) : ∀ (f : Nat) (i : Int) (u : fx_U), 12 - i < (f : Int) → 0 ≤ i → i ≤ 12 → zn_P N u → ∃ w : fx_U, kL_X7_init_tail_136 (N 0) f i u = f_X7_layAnew w (N 0) 16 ∧ (∀ c : Nat, c ≠ N 13 → c ≠ N 14 → ∀ j : Nat, w c j = u c j) ∧ (∀ j : Nat, j < 12 → i ≤ (j : Int) → w (N 13) j = -1 ∧ w (N 14) j = -1) ∧ ∀ j : Nat, (j : Int) < i → w (N 13) j = u (N 13) j ∧ w (N 14) j = u (N 14) j := by
  intro f
  induction f with
  | zero => intro i u h1 h2 h3; omega
  | succ f ih =>
    intro i u h1 h2 h3 hP
    by_cases c : i < 12
    · have n0 : N 0 ≠ N 13 ∧ N 0 ≠ N 14 := ⟨dN 0 13 (by decide) (by decide) (by decide), dN 0 14 (by decide) (by decide) (by decide)⟩
      have n1 : N 13 ≠ N 14 := dN 13 14 (by decide) (by decide) (by decide)
      obtain ⟨u1, hu1⟩ : ∃ q : fx_U, q = fx_pt u (N 13) i.toNat (-1) := ⟨_, rfl⟩
      obtain ⟨u2, hu2⟩ : ∃ q : fx_U, q = fx_pt u1 (N 14) i.toNat (-1) := ⟨_, rfl⟩
      have U : ∀ c : Nat, c ≠ N 13 → c ≠ N 14 → ∀ j : Nat, u2 c j = u c j := fun c h3 h4 j => by
        rw [hu2, hu1]
        exact (zz_pa h4).trans (zz_pa h3)
      have p13 := hP 13 (by decide) (by decide)
      have p14 : u1 (N 0) 14 = (N 14 : Int) := by
        rw [hu1]
        exact (zz_pa n0.1).trans (hP 14 (by decide) (by decide))
      have P2 : zn_P N u2 := fun j j1 j2 => (U (N 0) n0.1 n0.2 j).trans (hP j j1 j2)
      obtain ⟨w, e1, e2, e3, e4⟩ := ih (i + 1) u2 (by omega) (by omega) (by omega) P2
      have A : ∀ j : Nat, j ≠ i.toNat → u2 (N 13) j = u (N 13) j ∧ u2 (N 14) j = u (N 14) j := fun j hj => by
        rw [hu2, hu1]
        exact ⟨(zz_pa n1).trans (zz_pj hj), (zz_pj hj).trans (zz_pa n1.symm)⟩
      have B : u2 (N 13) i.toNat = -1 ∧ u2 (N 14) i.toNat = -1 := by
        rw [hu2, hu1]
        exact ⟨(zz_pa n1).trans zz_ps, zz_ps⟩
      refine ⟨w, ?_, fun c h3 h4 j => (e2 c h3 h4 j).trans (U c h3 h4 j), fun j j1 j2 => ?_, fun j j1 => ?_⟩
      · rw [← e1]
        show kB_X7_init_tail_136 (kL_X7_init_tail_136 (N 0) f) (N 0) i u = _
        unfold kB_X7_init_tail_136
        simp only [fz_lr, fz_lt, fz_ls, p13, Int.toNat_natCast, ← hu1, p14, ← hu2]
        rw [if_pos c]
      · by_cases t : j = i.toNat
        · obtain ⟨f1, f2⟩ := e4 j (by omega)
          rw [f1, f2, t]
          exact B
        · exact e3 j j1 (by omega)
      · obtain ⟨f1, f2⟩ := e4 j (by omega)
        obtain ⟨g1, g2⟩ := A j (by omega)
        exact ⟨f1.trans g1, f2.trans g2⟩
    · refine ⟨u, ?_, fun _ _ _ _ => rfl, fun j j1 j2 => by omega, fun j _ => ⟨rfl, rfl⟩⟩
      show kB_X7_init_tail_136 (kL_X7_init_tail_136 (N 0) f) (N 0) i u = _
      unfold kB_X7_init_tail_136
      simp only [fz_ls]
      rw [if_neg c]
/-- beyond all rows -/
theorem zw_far (N : Nat → Nat) : ∃ B : Nat, ∀ j : Nat, j ≤ 14 → N j < B := by
  have key : ∀ n : Nat, ∃ B : Nat, ∀ j : Nat, j ≤ n → N j < B := by
    intro n
    induction n with
    | zero => exact ⟨N 0 + 1, fun j hj => by rw [show j = 0 by omega]; exact Nat.lt_succ_self _⟩
    | succ n ih =>
      obtain ⟨B, hB⟩ := ih
      refine ⟨B + N (n + 1) + 1, fun j hj => ?_⟩
      by_cases e : j = n + 1
      · rw [e]
        omega
      · have := hB j (by omega)
        omega
  exact key 14
theorem zw_made (T : zw_T τ N) (n12 : N 1 ≠ N 2) (n13 : N 1 ≠ N 3) (n23 : N 2 ≠ N 3) (hP : zn_P N u) (v : u (N 0) 15 = 64 ∧ u (N 0) 16 = -1 ∧ u (N 0) 17 = 0) (o : ∀ a : Nat, a < 2 → u (N 12) a = 0) (F : w = f_X7_init_tail u (N 0)) : zw_M τ N w ∧ ∀ c : Nat, (∀ j : Nat, j ≤ 14 → c ≠ N j) → ∀ i : Nat, w c i = u c i := by
  have dN := zw_dis T n12 n13 n23
  obtain ⟨u1, e1, e2, e3, -⟩ := zw_tl dN 13 0 u (by decide) (by decide) (by decide) hP
  have n0 : N 0 ≠ N 13 ∧ N 0 ≠ N 14 := ⟨dN 0 13 (by decide) (by decide) (by decide), dN 0 14 (by decide) (by decide) (by decide)⟩
  have P1 : zn_P N u1 := fun j j1 j2 => (e2 (N 0) n0.1 n0.2 j).trans (hP j j1 j2)
  have X2 : zn_X2 N := ⟨fun k hk h => dN k 13 (by omega) (by decide) h, fun k hk h => dN k 14 (by omega) (by decide) h, fun k hk h => dN k 12 (by omega) (by decide) h, fun k hk h => dN k 4 (by omega) (by decide) h⟩
  have main : ∀ la bk : Nat, (∀ j : Nat, j ≤ 14 → N j ≠ la ∧ N j ≠ bk) → bk ≠ la → zw_M τ N w ∧ ∀ c : Nat, (∀ j : Nat, j ≤ 14 → c ≠ N j) → c ≠ la → c ≠ bk → ∀ i : Nat, w c i = u c i := by
    intro la bk n1 n2
    have X : zn_X N la bk := ⟨fun j k hj hk _ h => dN k j (by omega) (by omega) (Ne.symm h), n1, n2⟩
    obtain ⟨w1, f1, f2, f3, ⟨f4, f5⟩, f6, f7, f8⟩ := zn_layA (x := 16) X X2 P1
    have ew : w = w1 := by
      rw [F, ← f1, ← e1]
      rfl
    rw [ew]
    refine ⟨⟨T, dN, f2, ⟨f4, ?_, ?_, ?_⟩, f7, fun a ha => ⟨(f8 a ha).1, (f8 a ha).2, ?_⟩, fun c hc => ?_⟩, fun c hc h1 h2 i => (f3 c h1 h2 hc i).trans (e2 c (hc 13 (by decide)) (hc 14 (by decide)) i)⟩
    · exact (f5 15 (by decide)).trans ((e2 (N 0) n0.1 n0.2 15).trans v.1)
    · exact (f5 16 (by decide)).trans ((e2 (N 0) n0.1 n0.2 16).trans v.2.1)
    · exact (f5 17 (by decide)).trans ((e2 (N 0) n0.1 n0.2 17).trans v.2.2)
    · exact (f6 12 a (by decide) (by decide)).trans ((e2 (N 12) (dN 12 13 (by decide) (by decide) (by decide)) (dN 12 14 (by decide) (by decide) (by decide)) a).trans (o a ha))
    · rw [f6 13 c (by decide) (by decide), f6 14 c (by decide) (by decide)]
      exact e3 c hc (by omega)
  obtain ⟨B, hB⟩ := zw_far N
  have g : ∀ c : Nat, ∀ j : Nat, j ≤ 14 → N j ≠ B + c + 1 ∧ N j ≠ B + c + 2 := fun c j hj => by
    have := hB j hj
    omega
  exact ⟨(main (B + 0 + 1) (B + 0 + 2) (g 0) (by omega)).1, fun c hc i => (main (B + c + 1) (B + c + 2) (g c) (by omega)).2 c hc (by omega) (by omega) i⟩
end First
