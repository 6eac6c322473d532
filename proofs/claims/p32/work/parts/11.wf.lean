/-! the reference's law in force, as its methods read it -/
theorem q_seg.keep {md : List (Nat × Nat)} {τ : q_T} {σ σ1 : q_V} {b n f t : Nat} (hF : q_F md τ σ σ1) (hT : τ b = some (156, n)) (hm : md.contains (156, 0) = false) (h : q_seg σ b f t) : q_seg σ1 b f t := by
  obtain ⟨d, h0, hd⟩ := h
  refine ⟨d, h0, fun k k1 k2 => ?_⟩
  obtain ⟨c, c1, c2⟩ := hd k k1 k2
  exact ⟨c, by rw [hF.arr hT (by decide) hm]; exact c1, c2⟩
theorem q_wf.read {τ : q_T} {σ : q_V} {a : Nat} (hI : q_I τ σ) (hT : τ a = some (10, 1)) (h : q_wf σ a) : ∃ (bc bf bh bt : Nat) (nc : Int32), (σ a 21 = .ref bc ∧ τ bc = some (156, 260)) ∧ (σ a 23 = .ref bf ∧ τ bf = some (158, 16)) ∧ (σ a 24 = .ref bh ∧ τ bh = some (159, 16)) ∧ (σ a 25 = .ref bt ∧ τ bt = some (160, 16)) ∧ (σ a 13 = .int nc ∧ q_r nc 0 16) ∧
    ∀ q : Nat, (q : Int) < nc.toInt → ∃ f h t : Int32, σ bf q = .int f ∧ σ bh q = .int h ∧ σ bt q = .int t ∧ 0 ≤ f.toInt ∧ f.toInt ≤ h.toInt ∧ h.toInt ≤ t.toInt ∧ t.toInt ≤ 260 ∧ q_seg σ bc f.toInt.toNat h.toInt.toNat ∧ q_seg σ bc h.toInt.toNat t.toInt.toNat := by
  obtain ⟨bc, bf, bh, bt, nc, e1, e2, e3, e4, e5, e6⟩ := h
  refine ⟨bc, bf, bh, bt, nc, ⟨e1, ?_⟩, ⟨e2, ?_⟩, ⟨e3, ?_⟩, ⟨e4, ?_⟩, ⟨e5, ?_⟩, e6⟩
  · obtain ⟨b, h1, h2⟩ := (hI a 10 1 hT 21 (by decide)).ref (k := 156) (n := 260) rfl
    rw [e1] at h1; cases h1; exact h2
  · obtain ⟨b, h1, h2⟩ := (hI a 10 1 hT 23 (by decide)).ref (k := 158) (n := 16) rfl
    rw [e2] at h1; cases h1; exact h2
  · obtain ⟨b, h1, h2⟩ := (hI a 10 1 hT 24 (by decide)).ref (k := 159) (n := 16) rfl
    rw [e3] at h1; cases h1; exact h2
  · obtain ⟨b, h1, h2⟩ := (hI a 10 1 hT 25 (by decide)).ref (k := 160) (n := 16) rfl
    rw [e4] at h1; cases h1; exact h2
  · obtain ⟨b, h1, h2⟩ := (hI a 10 1 hT 13 (by decide)).int (lo := 0) (hi := 16) rfl
    rw [e5] at h1; cases h1; exact h2
