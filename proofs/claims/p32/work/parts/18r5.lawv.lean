/-! THE LAW'S TEXT in the reference: an E, whole -/
section LawV
variable {T : Nat → Int} {a2 tb bs bw : Nat} {n p c op : Int} {W : List (Int × Int)} {w v : fx_U}
theorem zl_SRd (ha : zl_aq a2 tb bs bw) (hn : n ≤ 240) : ∀ d : Nat, d ≤ 6 → zl_okR T a2 tb bs bw n 2 (6 - (d : Int)) (zl_nt2 2) (zl_S T n d) := by
  intro d
  induction d with
  | zero =>
    intro _
    have e : (6 : Int) - ((0 : Nat) : Int) = 6 := rfl
    rw [e]
    exact zl_SR ha hn (by decide) (zl_FR (room := false) ha hn (by decide) (by decide) (fun z => absurd z (by first | decide | (dsimp only; decide) | (dsimp only))) (fun z => absurd z (by first | decide | (dsimp only; decide) | (dsimp only))) (fun z => absurd z (by first | decide | (dsimp only; decide) | (dsimp only)))) (zl_fac_g (fun z => absurd z (by first | decide | (dsimp only; decide) | (dsimp only))))
  | succ d ih =>
    intro hd
    have i := ih (by omega)
    rw [show (6 : Int) - (d : Int) = 6 - ((d + 1 : Nat) : Int) + 1 by omega] at i
    exact zl_SR ha hn ⟨by omega, by omega⟩ (zl_FR (room := true) ha hn ⟨by omega, by omega⟩ ⟨fun _ => by omega, fun _ => rfl⟩ (fun _ => i) (fun _ => zl_S_g d) (fun _ => zl_S_en hn d)) (zl_fac_g (fun _ => zl_S_g d))
/-- the reference reads an E -/
theorem zl_rS (ha : zl_aq a2 tb bs bw) (hn : n ≤ 240) {d : Nat} (hd : d ≤ 6) (ho : op = 6 - (d : Int)) (hD : zl_D T a2 tb bs bw n p op c W w) (h0 : 0 ≤ p) (h1 : p ≤ n) (hc : 0 ≤ c) (hWp : (W.length : Int) ≤ p) (hW : zl_nt2 2 W) :
    ((zl_S T n d p).1 ≠ 0 ∧ ∃ y : fx_U, f_X12_readsSum w a2 = (0, y) ∧ y a2 7 = zz_ft (zl_S T n d p).1 (zl_S T n d p).2.1 ∧ zl_eq a2 bs bw c w y) ∨ ((zl_S T n d p).1 = 0 ∧ ∃ y : fx_U, f_X12_readsSum w a2 = (1, y) ∧ zl_D T a2 tb bs bw n (zl_S T n d p).2.1 op (c + ((zl_S T n d p).2.2.length : Int)) W y ∧ zl_ce bs y c (zl_S T n d p).2.2 ∧ zl_eq a2 bs bw c w y) := by
  subst ho
  obtain ⟨F, hF⟩ : ∃ F : Nat, F = Int.toNat (260 - (f_X12_readsFactor w a2).2 a2 5) + 1 := ⟨_, rfl⟩
  have e : f_X12_readsSum w a2 = zl_FM a2 bw (W.length : Int) F w := by
    unfold f_X12_readsSum zl_FM zl_MM
    simp only [fz_lt, fz_lr, fz_lc, hD.1.2.2.2, hD.2.1.2.2.2, Int.toNat_natCast, ← hF]
  have zg := zl_S_g (T := T) (n := n) d p h0 h1
  have res := zl_SRd ha hn d hd (W.length : Int) p c W F w hD h0 h1 hc ⟨by omega, Int.le_refl _⟩ hWp hW (by omega)
  rw [← e] at res
  rcases res with ⟨a1, a2', a3, a4⟩ | ⟨a1, f, y, P, e2, b1, b2, b3, b4, b5, b6, b7, b8⟩
  · refine Or.inl ⟨a1, (f_X12_readsSum w a2).2, ?_, a3, a4⟩
    rw [← a2']
  · obtain ⟨z1, z2⟩ := zg.2.1 a1
    have ze := zl_S_en (T := T) hn d p h0 h1 a1
    obtain ⟨G, rfl⟩ : ∃ G : Nat, f = G + 1 := ⟨f - 1, by have := zg.1; omega⟩
    have hh := zl_hr b3 (show 0 ≤ (zl_S T n d p).2.1 by omega)
    have has := zl_has0 b3 b5 (by have := zg.1; omega)
    have clo := zl_close ha (pq := (zl_S T n d p).2.1) (b := 1) (lo := 2) (Or.inr ⟨rfl, rfl⟩) hW P (Int.toNat ((P ++ W).length : Int) + 1) (c + (e2.length : Int)) (c + (e2.length : Int)) ((P ++ W).length : Int) y b5 (by rw [Int.toNat_natCast, List.length_append]; omega) rfl (by omega) b3
    have eC : f_X12_closesSums y a2 1 = kL_X12_closesSums_0 a2 1 (zl_S T n d p).2.1 (Int.toNat ((P ++ W).length : Int) + 1) y (c + (e2.length : Int)) ((P ++ W).length : Int) (zl_S T n d p).2.1 := by
      unfold f_X12_closesSums
      simp only [fz_lt, fz_lr, b3.2.1.1, b3.2.1.2.2.1, b3.2.1.2.2.2]
    rw [← eC] at clo
    obtain ⟨d1, d2, d3⟩ := clo
    have lenC : ((zl_S T n d p).2.2.length : Int) = (e2.length : Int) + (P.length : Int) := by
      rw [b7, List.length_append, List.length_map]
      omega
    refine Or.inr ⟨a1, f_X12_closesSums y a2 1, ?_, ?_, ?_, b8.tr d2 (by omega)⟩
    · have eK : zl_MM a2 bw (W.length : Int) (G + 1) y = kB_X12_readsSum_14 (kL_X12_readsSum_14 a2 (W.length : Int) bw G) a2 (W.length : Int) bw y (y a2 10) (y a2 11) (y a2 5) := rfl
      have e138 : ∀ z : Int, kJ_X12_readsSum_138 y a2 (W.length : Int) z = (1, f_X12_closesSums y a2 1) := fun z => by
        unfold kJ_X12_readsSum_138
        simp only [fz_lt, fz_ls, has, if_true]
      rw [b1, eK]
      unfold kB_X12_readsSum_14
      simp only [fz_lt, hh, zl_ss ze, if_true, has, e138]
      by_cases q : zz_pk T n (zl_S T n d p).2.1 = 93
      · rw [if_pos q]
      · rw [if_neg q]
    · rw [show c + ((zl_S T n d p).2.2.length : Int) = c + (e2.length : Int) + (P.length : Int) by omega]
      exact d1
    · rw [b7]
      exact zl_ce_app e2 _ c (zl_ce_keep d2.2.2 e2 c hc (Int.le_refl _) b6) d3
end LawV
