/-! all is painted by both: the six numbers, what a start and an end do to them, and how much is left -/
theorem q_is0 {x : Int32} (h : q_r x 0 0) : x = 0 := Int32.toInt_inj.mp (by unfold q_r at h; rw [tl_0]; omega)
theorem q_is1 {x : Int32} (h : q_r x 1 1) : x = 1 := Int32.toInt_inj.mp (by unfold q_r at h; rw [tl_1]; omega)
def q_pb (σ : q_V) (a bd bl : Nat) (L H d0 d1 l0 l1 : Int32) : Prop := σ a 39 = .int L ∧ σ a 40 = .int H ∧ σ bd (0 : Int32).toInt.toNat = .int d0 ∧ σ bd (1 : Int32).toInt.toNat = .int d1 ∧ σ bl (0 : Int32).toInt.toNat = .int l0 ∧ σ bl (1 : Int32).toInt.toNat = .int l1
theorem q_pb.rng {τ : q_T} {σ : q_V} {a bd bl : Nat} {L H d0 d1 l0 l1 : Int32} (h : q_pb σ a bd bl L H d0 d1 l0 l1) (hI : q_I τ σ) (hT : τ a = some (10, 1)) (hb : τ bd = some (171, 2)) : q_r L 0 64 ∧ q_r H (-1) 63 ∧ q_r d0 (-1) 63 ∧ q_r d1 (-1) 63 := by
  obtain ⟨h1, h2, h3, h4, -, -⟩ := h
  refine ⟨?_, ?_, ?_, ?_⟩
  · obtain ⟨x, e1, e2⟩ := (hI a 10 1 hT 39 (by decide)).int ff_10_39; rw [h1] at e1; cases e1; exact e2
  · obtain ⟨x, e1, e2⟩ := (hI a 10 1 hT 40 (by decide)).int ff_10_40; rw [h2] at e1; cases e1; exact e2
  · obtain ⟨x, e1, e2⟩ := (hI bd 171 2 hb (0 : Int32).toInt.toNat (by decide)).int (ai_171.2.2 _); rw [h3] at e1; cases e1; exact e2
  · obtain ⟨x, e1, e2⟩ := (hI bd 171 2 hb (1 : Int32).toInt.toNat (by decide)).int (ai_171.2.2 _); rw [h4] at e1; cases e1; exact e2
def q_ps0 (L H d0 d1 l0 l1 L2 H2 d2 d3 l2 l3 : Int) : Prop := (L2 = L ∧ H2 = H ∧ d2 = d0 ∧ d3 = d1 ∧ l2 = l0 ∧ l3 = l1 ∧ (d0 ≠ -1 ∨ H < L)) ∨ (d0 = -1 ∧ L ≤ H ∧ L2 = L + 1 ∧ H2 = H ∧ 0 ≤ d2 ∧ d3 = d1 ∧ 1 ≤ l2 ∧ l2 ≤ 9 ∧ l3 = l1)
def q_ps1 (L H d0 d1 l0 l1 L2 H2 d2 d3 l2 l3 : Int) : Prop := (L2 = L ∧ H2 = H ∧ d2 = d0 ∧ d3 = d1 ∧ l2 = l0 ∧ l3 = l1 ∧ (d1 ≠ -1 ∨ H < L)) ∨ (d1 = -1 ∧ L ≤ H ∧ L2 = L ∧ H2 = H - 1 ∧ 0 ≤ d3 ∧ d2 = d0 ∧ 1 ≤ l3 ∧ l3 ≤ 9 ∧ l2 = l0)
def q_pe0 (L H d0 d1 l0 l1 L2 H2 d2 d3 l2 l3 : Int) : Prop := (L2 = L ∧ H2 = H ∧ d2 = d0 ∧ d3 = d1 ∧ l2 = l0 ∧ l3 = l1 ∧ d0 = -1) ∨ (d0 ≠ -1 ∧ L2 = L ∧ H2 = H ∧ d3 = d1 ∧ l3 = l1 ∧ l2 = l0 - 1 ∧ ((1 ≤ l2 ∧ d2 = d0) ∨ (l2 ≤ 0 ∧ d2 = -1)))
def q_pe1 (L H d0 d1 l0 l1 L2 H2 d2 d3 l2 l3 : Int) : Prop := (L2 = L ∧ H2 = H ∧ d2 = d0 ∧ d3 = d1 ∧ l2 = l0 ∧ l3 = l1 ∧ d1 = -1) ∨ (d1 ≠ -1 ∧ L2 = L ∧ H2 = H ∧ d2 = d0 ∧ l2 = l0 ∧ l3 = l1 - 1 ∧ ((1 ≤ l3 ∧ d3 = d1) ∨ (l3 ≤ 0 ∧ d3 = -1)))
def q_pm (L H d0 d1 l0 l1 N : Int) : Prop := 0 ≤ L ∧ L ≤ H + 1 ∧ H ≤ 63 ∧ ((d0 = -1 ∧ ((d1 = -1 ∧ N = 10 * (H - L + 1)) ∨ (0 ≤ d1 ∧ 1 ≤ l1 ∧ l1 ≤ 9 ∧ N = 10 * (H - L + 1) + l1))) ∨ (0 ≤ d0 ∧ 1 ≤ l0 ∧ l0 ≤ 9 ∧ ((d1 = -1 ∧ N = 10 * (H - L + 1) + l0) ∨ (0 ≤ d1 ∧ 1 ≤ l1 ∧ l1 ≤ 9 ∧ N = 10 * (H - L + 1) + l0 + l1))))
section
variable {L H d0 d1 l0 l1 L2 H2 d2 d3 l2 l3 N : Int}
theorem q_pm.nn (h : q_pm L H d0 d1 l0 l1 N) : 0 ≤ N := by unfold q_pm at h; omega
theorem q_pm.lef0 (h : q_pm L H d0 d1 l0 l1 N) (q : d0 ≠ -1) : 1 ≤ l0 ∧ l0 ≤ 9 := by unfold q_pm at h; omega
theorem q_pm.lef1 (h : q_pm L H d0 d1 l0 l1 N) (q : d1 ≠ -1) : 1 ≤ l1 ∧ l1 ≤ 9 := by unfold q_pm at h; omega
theorem q_pm.s0 (h : q_pm L H d0 d1 l0 l1 N) (r : q_ps0 L H d0 d1 l0 l1 L2 H2 d2 d3 l2 l3) : ∃ N2, q_pm L2 H2 d2 d3 l2 l3 N2 ∧ N2 ≤ N ∧ ((L ≤ H ∨ d0 ≠ -1 ∨ d1 ≠ -1) → (d2 ≠ -1 ∨ d3 ≠ -1)) := by
  unfold q_pm at h; unfold q_ps0 at r
  rcases r with r | r
  · exact ⟨N, by unfold q_pm; omega, by omega, by omega⟩
  · exact ⟨N - 10 + l2, by unfold q_pm; omega, by omega, by omega⟩
theorem q_pm.s1 (h : q_pm L H d0 d1 l0 l1 N) (r : q_ps1 L H d0 d1 l0 l1 L2 H2 d2 d3 l2 l3) : ∃ N2, q_pm L2 H2 d2 d3 l2 l3 N2 ∧ N2 ≤ N ∧ ((d0 ≠ -1 ∨ d1 ≠ -1) → (d2 ≠ -1 ∨ d3 ≠ -1)) := by
  unfold q_pm at h; unfold q_ps1 at r
  rcases r with r | r
  · exact ⟨N, by unfold q_pm; omega, by omega, by omega⟩
  · exact ⟨N - 10 + l3, by unfold q_pm; omega, by omega, by omega⟩
theorem q_pm.e0 (h : q_pm L H d0 d1 l0 l1 N) (r : q_pe0 L H d0 d1 l0 l1 L2 H2 d2 d3 l2 l3) : ∃ N2, q_pm L2 H2 d2 d3 l2 l3 N2 ∧ N2 ≤ N ∧ (d0 ≠ -1 → N2 < N) ∧ d3 = d1 := by
  unfold q_pm at h; unfold q_pe0 at r
  rcases r with r | r
  · exact ⟨N, by unfold q_pm; omega, by omega, by omega, by omega⟩
  · exact ⟨N - 1, by unfold q_pm; omega, by omega, by omega, by omega⟩
theorem q_pm.e1 (h : q_pm L H d0 d1 l0 l1 N) (r : q_pe1 L H d0 d1 l0 l1 L2 H2 d2 d3 l2 l3) : ∃ N2, q_pm L2 H2 d2 d3 l2 l3 N2 ∧ N2 ≤ N ∧ (d1 ≠ -1 → N2 < N) := by
  unfold q_pm at h; unfold q_pe1 at r
  rcases r with r | r
  · exact ⟨N, by unfold q_pm; omega, by omega, by omega⟩
  · exact ⟨N - 1, by unfold q_pm; omega, by omega, by omega⟩
end
theorem q_pmE {m x d D D2 N N2 N3 : Int} (h : x ≤ m → (d ≠ -1 ∨ D ≠ -1)) (k : N2 ≤ N ∧ (d ≠ -1 → N2 < N) ∧ D2 = D) (k2 : N3 ≤ N2 ∧ (D2 ≠ -1 → N3 < N2)) : N3 ≤ N ∧ (x ≤ m → N3 < N) := by
  refine ⟨Int.le_trans k2.1 k.1, fun q => ?_⟩
  rcases h q with h | h
  · exact Int.lt_of_le_of_lt k2.1 (k.2.1 h)
  · exact Int.lt_of_lt_of_le (k2.2 (by rw [k.2.2]; exact h)) k.1
theorem q_pmZ {m m2 N N2 N3 x : Int} (e : m2 = m + 1) (i : (m ≤ 600 ∨ m + N ≤ 1300) ∧ N ≤ 700) (E : N3 ≤ N2 ∧ (x ≤ m → N3 < N2)) (F : N2 ≤ N) (G : 0 ≤ N3) (hx : x ≤ 600) (hm : 0 ≤ m) : (0 ≤ m2 ∧ m2 ≤ 1301) ∧ ((m2 ≤ 600 ∨ m2 + N3 ≤ 1300) ∧ N3 ≤ 700) ∧ ∀ n : Nat, (N + ((600 - m).toNat : Nat)).toNat < n + 1 → (N3 + ((600 - m2).toNat : Nat)).toNat < n := by
  have E1 := E.1
  have E2 : m < x ∨ N3 < N2 := by
    by_cases q : x ≤ m
    · exact Or.inr (E.2 q)
    · exact Or.inl (by omega)
  clear E
  refine ⟨by omega, by omega, fun n hn => ?_⟩
  omega
