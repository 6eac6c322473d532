/-! what was said comes into force -/
theorem q_sd.wf {σ : q_V} {a bc bf bh bt : Nat} {nc c : Int32} {fs ff fh ft : Nat → Value} (hs : q_sd fs ff fh ft nc.toInt c.toInt) (hc : c.toInt ≤ 260) (e1 : σ a 21 = .ref bc) (e2 : σ a 23 = .ref bf) (e3 : σ a 24 = .ref bh) (e4 : σ a 25 = .ref bt) (e5 : σ a 13 = .int nc)
    (k1 : ∀ j : Nat, (j : Int) < c.toInt → σ bc j = fs j) (k2 : ∀ j : Nat, (j : Int) < nc.toInt → σ bf j = ff j) (k3 : ∀ j : Nat, (j : Int) < nc.toInt → σ bh j = fh j) (k4 : ∀ j : Nat, (j : Int) < nc.toInt → σ bt j = ft j) : q_wf σ a := by
  refine ⟨bc, bf, bh, bt, nc, e1, e2, e3, e4, e5, fun q hq => ?_⟩
  obtain ⟨f, h, t, g1, g2, g3, g4, g5, g6, g7, g8, g9⟩ := hs q hq
  exact ⟨f, h, t, (k2 q hq).trans g1, (k3 q hq).trans g2, (k4 q hq).trans g3, g4, g5, g6, by omega, q_segC (fs' := σ bc) g8 (fun k hk => k1 k (by omega)), q_segC (fs' := σ bc) g9 (fun k hk => k1 k (by omega))⟩
