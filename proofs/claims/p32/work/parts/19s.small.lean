/-! THE NIGHT: cones, dew, a car -/
section Small
variable {N : Nat → Nat} {la bk a2 b bq bf : Nat} {D c x m y : Int} {u v w z : fx_U}
theorem zn_bit (Y : BitVec 32) : (Y &&& 1#32).toInt = if Y.getLsbD 0 = true then 1 else 0 := by
  have h : (Y &&& 1#32).toNat = Y.toNat % 2 := by
    rw [BitVec.toNat_and]
    exact Nat.and_one_is_mod _
  have lt : 2 * (Y &&& 1#32).toNat < 2 ^ 32 := by omega
  rw [BitVec.toInt_eq_toNat_of_lt lt, h]
  show ((Y.toNat % 2 : Nat) : Int) = if Y.toNat.testBit 0 = true then 1 else 0
  rw [Nat.testBit_zero]
  by_cases q : Y.toNat % 2 = 1
  · rw [q, if_pos (by decide)]
    rfl
  · have q0 : Y.toNat % 2 = 0 := by omega
    rw [q0, if_neg (by decide)]
    rfl
theorem zn_hasB (X : Int32) {k : Nat} (hk : k < 12) (u : fx_U) : f_X12_has u X.toInt (k : Int) = if X.toBitVec.getLsbD k = true then 1 else 0 := by
  have e : (X >>> (Int32.ofInt (k : Int) &&& 31)).toBitVec = X.toBitVec.sshiftRight k := by
    rcases (show k = 0 ∨ k = 1 ∨ k = 2 ∨ k = 3 ∨ k = 4 ∨ k = 5 ∨ k = 6 ∨ k = 7 ∨ k = 8 ∨ k = 9 ∨ k = 10 ∨ k = 11 by omega) with rfl | rfl | rfl | rfl | rfl | rfl | rfl | rfl | rfl | rfl | rfl | rfl <;> rfl
  have g : (X.toBitVec.sshiftRight k).getLsbD 0 = X.toBitVec.getLsbD k := by
    rw [BitVec.getLsbD_sshiftRight]
    have h1 : k + 0 < 32 := by omega
    rw [if_pos h1]
    simp
  have z := zn_bit (X.toBitVec.sshiftRight k)
  rw [g] at z
  unfold f_X12_has fx_b_shr fx_b_and
  simp only [fz_lt, Int32.ofInt_toInt]
  have q : ((X >>> (Int32.ofInt (k : Int) &&& 31)) &&& Int32.ofInt 1).toInt = if X.toBitVec.getLsbD k = true then 1 else 0 := by
    rw [← z, ← e]
    rfl
  rw [q]
  by_cases t : X.toBitVec.getLsbD k = true
  · rw [if_pos t, if_pos rfl]
  · rw [if_neg t, if_neg (by decide)]
theorem zn_sl : ∀ c : Nat, c < 12 → ∀ k : Nat, k < 12 → (Int32.ofInt 1 <<< (Int32.ofInt (c : Int) &&& 31)).toBitVec.getLsbD k = decide (k = c) := by decide +kernel
theorem zn_hasO (X : Int32) {c k : Nat} (hc : c < 12) (hk : k < 12) (u w : fx_U) : f_X12_has u (fx_b_or X.toInt (fx_b_shl 1 (c : Int))) (k : Int) = if k = c then 1 else f_X12_has w X.toInt (k : Int) := by
  unfold fx_b_or fx_b_shl
  simp only [Int32.ofInt_toInt]
  rw [zn_hasB _ hk, zn_hasB X hk, Int32.toBitVec_or, BitVec.getLsbD_or, zn_sl c hc k hk]
  by_cases q : k = c
  · rw [if_pos q, decide_eq_true q, Bool.or_true, if_pos rfl]
  · rw [if_neg q, decide_eq_false q, Bool.or_false]
theorem zn_Rcones (X : zn_X N la bk) (hR : zn_R N b D u v) : zn_R N b D (fx_pt u (N 0) 15 x) (fx_pt v b 514 x) := by
  have nk : ∀ k : Nat, k ≤ 14 → k ≠ 0 → N k ≠ N 0 := fun k k1 k2 => X.1 0 k (by decide) k1 (Or.inl rfl) (fun h => k2 h.symm)
  obtain ⟨⟨⟨g1, g2⟩, g3, g4, g5, g6, g7⟩, hd, ⟨hA0, hA1⟩, hne, hC⟩ := hR
  have am : ∀ a : Nat, a < 2 → zn_A N b D u v a → zn_A N b D (fx_pt u (N 0) 15 x) (fx_pt v b 514 x) a := fun a ha h => zn_Am h ⟨zz_pa (nk 9 (by decide) (by decide)), zz_pa (nk 10 (by decide) (by decide)), zz_pa (nk 11 (by decide) (by decide)), zz_pa (nk 12 (by decide) (by decide))⟩ (fun _ => zz_pa (nk 5 (by decide) (by decide))) ⟨zz_pj (by omega), zz_pj (by omega), zz_pj (by omega), zz_pj (by omega)⟩
  refine ⟨?_, fun j hj => zn_Dm (hd j hj) ⟨zz_pa (nk 4 (by decide) (by decide)), zz_pa (nk 5 (by decide) (by decide)), zz_pa (nk 6 (by decide) (by decide)), zz_pa (nk 7 (by decide) (by decide)), zz_pa (nk 8 (by decide) (by decide))⟩ ⟨zz_pj (by omega), zz_pj (by omega), zz_pj (by omega), zz_pj (by omega), zz_pj (by omega)⟩, ⟨am 0 (by decide) hA0, am 1 (by decide) hA1⟩, ?_, fun c hc => zn_Cm (hC c hc) ⟨zz_pa (nk 13 (by decide) (by decide)), zz_pa (nk 14 (by decide) (by decide))⟩ ⟨zz_pj (by omega), zz_pj (by omega), zz_pj (by omega)⟩⟩
  · have k0 : fx_pt u (N 0) 15 x (N 0) 0 = u (N 0) 0 := zz_pj (by decide)
    have k15 : fx_pt u (N 0) 15 x (N 0) 15 = x := zz_ps
    have k16 : fx_pt u (N 0) 15 x (N 0) 16 = u (N 0) 16 := zz_pj (by decide)
    have k17 : fx_pt u (N 0) 15 x (N 0) 17 = u (N 0) 17 := zz_pj (by decide)
    have r1 : fx_pt v b 514 x b 512 = v b 512 := zz_pj (by decide)
    have r2 : fx_pt v b 514 x b 514 = x := zz_ps
    have r3 : fx_pt v b 514 x b 515 = v b 515 := zz_pj (by decide)
    have r4 : fx_pt v b 514 x b 513 = v b 513 := zz_pj (by decide)
    unfold zn_G
    rw [k0, k15, k16, k17, r1, r2, r3, r4]
    exact ⟨⟨g1, g2⟩, rfl, g4, g5, g6, g7⟩
  · have k0 : fx_pt u (N 0) 15 x (N 10) 0 = u (N 10) 0 := zz_pa (nk 10 (by decide) (by decide))
    have k1 : fx_pt u (N 0) 15 x (N 10) 1 = u (N 10) 1 := zz_pa (nk 10 (by decide) (by decide))
    rw [k0, k1]
    exact hne
theorem zn_Rdew (X : zn_X N la bk) (hR : zn_R N b D u v) (hx : (x = -1 ∧ y = -2) ∨ (0 ≤ x ∧ x = y)) : zn_R N b D (fx_pt u (N 0) 16 x) (fx_pt v b 515 y) := by
  have nk : ∀ k : Nat, k ≤ 14 → k ≠ 0 → N k ≠ N 0 := fun k k1 k2 => X.1 0 k (by decide) k1 (Or.inl rfl) (fun h => k2 h.symm)
  obtain ⟨⟨⟨g1, g2⟩, g3, g4, g5, g6, g7⟩, hd, ⟨hA0, hA1⟩, hne, hC⟩ := hR
  have am : ∀ a : Nat, a < 2 → zn_A N b D u v a → zn_A N b D (fx_pt u (N 0) 16 x) (fx_pt v b 515 y) a := fun a ha h => zn_Am h ⟨zz_pa (nk 9 (by decide) (by decide)), zz_pa (nk 10 (by decide) (by decide)), zz_pa (nk 11 (by decide) (by decide)), zz_pa (nk 12 (by decide) (by decide))⟩ (fun _ => zz_pa (nk 5 (by decide) (by decide))) ⟨zz_pj (by omega), zz_pj (by omega), zz_pj (by omega), zz_pj (by omega)⟩
  refine ⟨?_, fun j hj => zn_Dm (hd j hj) ⟨zz_pa (nk 4 (by decide) (by decide)), zz_pa (nk 5 (by decide) (by decide)), zz_pa (nk 6 (by decide) (by decide)), zz_pa (nk 7 (by decide) (by decide)), zz_pa (nk 8 (by decide) (by decide))⟩ ⟨zz_pj (by omega), zz_pj (by omega), zz_pj (by omega), zz_pj (by omega), zz_pj (by omega)⟩, ⟨am 0 (by decide) hA0, am 1 (by decide) hA1⟩, ?_, fun c hc => zn_Cm (hC c hc) ⟨zz_pa (nk 13 (by decide) (by decide)), zz_pa (nk 14 (by decide) (by decide))⟩ ⟨zz_pj (by omega), zz_pj (by omega), zz_pj (by omega)⟩⟩
  · have k0 : fx_pt u (N 0) 16 x (N 0) 0 = u (N 0) 0 := zz_pj (by decide)
    have k15 : fx_pt u (N 0) 16 x (N 0) 15 = u (N 0) 15 := zz_pj (by decide)
    have k16 : fx_pt u (N 0) 16 x (N 0) 16 = x := zz_ps
    have k17 : fx_pt u (N 0) 16 x (N 0) 17 = u (N 0) 17 := zz_pj (by decide)
    have r1 : fx_pt v b 515 y b 512 = v b 512 := zz_pj (by decide)
    have r2 : fx_pt v b 515 y b 514 = v b 514 := zz_pj (by decide)
    have r3 : fx_pt v b 515 y b 515 = y := zz_ps
    have r4 : fx_pt v b 515 y b 513 = v b 513 := zz_pj (by decide)
    unfold zn_G
    rw [k0, k15, k16, k17, r1, r2, r3, r4]
    exact ⟨⟨g1, g2⟩, g3, hx, g5, g6, g7⟩
  · have k0 : fx_pt u (N 0) 16 x (N 10) 0 = u (N 10) 0 := zz_pa (nk 10 (by decide) (by decide))
    have k1 : fx_pt u (N 0) 16 x (N 10) 1 = u (N 10) 1 := zz_pa (nk 10 (by decide) (by decide))
    rw [k0, k1]
    exact hne
/-- rows 12 to 14 lie apart from the rest too -/
def zn_X2 (N : Nat → Nat) : Prop := (∀ k : Nat, k ≤ 14 → k ≠ 13 → N k ≠ N 13) ∧ (∀ k : Nat, k ≤ 14 → k ≠ 14 → N k ≠ N 14) ∧ (∀ k : Nat, k ≤ 14 → k ≠ 12 → N k ≠ N 12) ∧ ∀ k : Nat, k ≤ 14 → k ≠ 4 → N k ≠ N 4
theorem zn_Rcar (X2 : zn_X2 N) (hR : zn_R N b D u v) (hc : 0 ≤ c ∧ c ≤ 11) (hx : x = 0 ∨ x = 1) (hm : 0 ≤ m ∧ m ≤ 9999) (hX : ∃ X : Int32, v b 524 = X.toInt) : zn_R N b D (fx_pt (fx_pt u (N 13) c.toNat x) (N 14) c.toNat m) (fx_pt (fx_pt (fx_pt v b 524 (fx_b_or (v b 524) (fx_b_shl 1 c))) b (525 + c.toNat) x) b (537 + c.toNat) m) := by
  obtain ⟨w, hw⟩ : ∃ w : fx_U, w = fx_pt (fx_pt u (N 13) c.toNat x) (N 14) c.toNat m := ⟨_, rfl⟩
  obtain ⟨z, hz⟩ : ∃ z : fx_U, z = fx_pt (fx_pt (fx_pt v b 524 (fx_b_or (v b 524) (fx_b_shl 1 c))) b (525 + c.toNat) x) b (537 + c.toNat) m := ⟨_, rfl⟩
  rw [← hw, ← hz]
  have U : ∀ k j : Nat, k ≤ 14 → (k ≠ 13 ∨ j ≠ c.toNat) → (k ≠ 14 ∨ j ≠ c.toNat) → w (N k) j = u (N k) j := fun k j k1 k2 k3 => by
    have s1 : fx_pt u (N 13) c.toNat x (N k) j = u (N k) j := by
      rcases k2 with h | h
      · exact zz_pa (X2.1 k k1 h)
      · exact zz_pj h
    rw [hw]
    rcases k3 with h | h
    · exact (zz_pa (X2.2.1 k k1 h)).trans s1
    · exact (zz_pj h).trans s1
  have V : ∀ j : Nat, j ≠ 524 → j ≠ 525 + c.toNat → j ≠ 537 + c.toNat → z b j = v b j := fun j j1 j2 j3 => by
    rw [hz]
    exact (zz_pj j3).trans ((zz_pj j2).trans (zz_pj j1))
  have V0 : z b 524 = fx_b_or (v b 524) (fx_b_shl 1 c) := by
    rw [hz]
    exact (zz_pj (by omega)).trans ((zz_pj (by omega)).trans zz_ps)
  have V1 : z b (525 + c.toNat) = x := by
    rw [hz]
    exact (zz_pj (by omega)).trans zz_ps
  have V2 : z b (537 + c.toNat) = m := by
    rw [hz]
    exact zz_ps
  have U1 : w (N 13) c.toNat = x := by
    rw [hw]
    exact (zz_pa (X2.2.1 13 (by decide) (by decide))).trans zz_ps
  have U2 : w (N 14) c.toNat = m := by
    rw [hw]
    exact zz_ps
  obtain ⟨hG, hd, ⟨hA0, hA1⟩, hne, hC⟩ := hR
  have am : ∀ a : Nat, a < 2 → zn_A N b D u v a → zn_A N b D w z a := fun a ha h => zn_Am h ⟨U 9 a (by decide) (Or.inl (by decide)) (Or.inl (by decide)), U 10 a (by decide) (Or.inl (by decide)) (Or.inl (by decide)), U 11 a (by decide) (Or.inl (by decide)) (Or.inl (by decide)), U 12 a (by decide) (Or.inl (by decide)) (Or.inl (by decide))⟩ (fun _ => U 5 _ (by decide) (Or.inl (by decide)) (Or.inl (by decide))) ⟨V _ (by omega) (by omega) (by omega), V _ (by omega) (by omega) (by omega), V _ (by omega) (by omega) (by omega), V _ (by omega) (by omega) (by omega)⟩
  refine ⟨zn_Gm hG (fun j => U 0 j (by decide) (Or.inl (by decide)) (Or.inl (by decide))) ⟨V _ (by omega) (by omega) (by omega), V _ (by omega) (by omega) (by omega), V _ (by omega) (by omega) (by omega), V _ (by omega) (by omega) (by omega)⟩, fun j hj => zn_Dm (hd j hj) ⟨U 4 j (by decide) (Or.inl (by decide)) (Or.inl (by decide)), U 5 j (by decide) (Or.inl (by decide)) (Or.inl (by decide)), U 6 j (by decide) (Or.inl (by decide)) (Or.inl (by decide)), U 7 j (by decide) (Or.inl (by decide)) (Or.inl (by decide)), U 8 j (by decide) (Or.inl (by decide)) (Or.inl (by decide))⟩ ⟨V _ (by omega) (by omega) (by omega), V _ (by omega) (by omega) (by omega), V _ (by omega) (by omega) (by omega), V _ (by omega) (by omega) (by omega), V _ (by omega) (by omega) (by omega)⟩, ⟨am 0 (by decide) hA0, am 1 (by decide) hA1⟩, ?_, fun k hk => ?_⟩
  · rw [U 10 0 (by decide) (Or.inl (by decide)) (Or.inl (by decide)), U 10 1 (by decide) (Or.inl (by decide)) (Or.inl (by decide))]
    exact hne
  · obtain ⟨X, hX⟩ := hX
    have hcc : c = ((c.toNat : Nat) : Int) := (Int.toNat_of_nonneg hc.1).symm
    have hh : f_X12_has z (z b 524) (k : Int) = if k = c.toNat then 1 else f_X12_has v (v b 524) (k : Int) := by
      rw [V0, hX]
      have q := zn_hasO X (c := c.toNat) (by omega) hk z v
      rw [← hcc] at q
      exact q
    by_cases e : k = c.toNat
    · refine Or.inr ⟨?_, ?_, ?_, ?_, ?_⟩
      · rw [e, U1]
        exact hx
      · rw [hh, if_pos e]
      · rw [e, U1, V1]
      · rw [e, U2, V2]
      · rw [e, U2]
        exact hm
    · have h := hC k hk
      unfold zn_C at h ⊢
      rw [hh, if_neg e, U 13 k (by decide) (Or.inr e) (Or.inl (by decide)), U 14 k (by decide) (Or.inl (by decide)) (Or.inr e), V (525 + k) (by omega) (by omega) (by omega), V (537 + k) (by omega) (by omega) (by omega)]
      exact h
end Small
