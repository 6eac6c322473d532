/-! THE NIGHT: what stays, and a party begins with a dot -/
def zn_X (N : Nat → Nat) (la bk : Nat) : Prop := (∀ j k : Nat, j ≤ 14 → k ≤ 14 → (j = 0 ∨ (5 ≤ j ∧ j ≤ 11)) → j ≠ k → N k ≠ N j) ∧ (∀ j : Nat, j ≤ 14 → N j ≠ la ∧ N j ≠ bk) ∧ bk ≠ la
def zn_cs (N : Nat → Nat) (la bk : Nat) (u w : fx_U) : Prop := (∀ c : Nat, c ≠ la → c ≠ bk → (∀ j : Nat, 5 ≤ j → j ≤ 11 → c ≠ N j) → ∀ i : Nat, w c i = u c i) ∧ ∀ j : Nat, j < 9 → w la j = u la j
def zn_ca (N : Nat → Nat) (la bk : Nat) (u w : fx_U) : Prop := (∀ c : Nat, c ≠ la → c ≠ bk → c ≠ N 0 → (∀ j : Nat, 5 ≤ j → j ≤ 11 → c ≠ N j) → ∀ i : Nat, w c i = u c i) ∧ (∀ j : Nat, j < 9 → w la j = u la j) ∧ ∀ j : Nat, j ≠ 17 → w (N 0) j = u (N 0) j
def zn_Y (a2 b bq bf : Nat) : Prop := (b ≠ a2 ∧ a2 ≠ b) ∧ (a2 ≠ bq ∧ a2 ≠ bf) ∧ b ≠ bq ∧ b ≠ bf
def zn_ra (a2 b bq bf : Nat) (v w : fx_U) : Prop := (∀ c : Nat, c ≠ a2 → c ≠ b → c ≠ bq → c ≠ bf → ∀ i : Nat, w c i = v c i) ∧ (∀ j : Nat, j ≠ 29 → w a2 j = v a2 j) ∧ ∀ j : Nat, (j < 256 ∨ j = 512) → w b j = v b j
def zn_qc (N : Nat → Nat) (la bk : Nat) (A B : Int → Int → Int → Int) (D : Int) (u : fx_U) : Prop := ∀ w : fx_U, zn_ca N la bk u w → ∀ i t p : Int, 0 ≤ i → i < D → (p = 0 ∨ p = 1) → (∃ y : fx_U, f_X3_ask w la 112 (N 0) i t p 0 = (A i t p, y) ∧ zv_fa la bk w y) ∧ ∃ y : fx_U, f_X3_ask w la 100 (N 0) i t p 0 = (B i t p, y) ∧ zv_fa la bk w y
def zn_qr (a2 b bq bf : Nat) (A B : Int → Int → Int → Int) (D : Int) (v : fx_U) : Prop := ∀ z : fx_U, zn_ra a2 b bq bf v z → ∀ i t p : Int, 0 ≤ i → i < D → (p = 0 ∨ p = 1) → (∃ y : fx_U, f_X12_paintsFor z a2 i t p = (A i t p, y) ∧ zv_fb bq bf z y) ∧ ∃ y : fx_U, f_X12_driesFor z a2 i t p = (B i t p, y) ∧ zv_fb bq bf z y
def zn_fr (N : Nat → Nat) (la bk : Nat) (u w : fx_U) : Prop := ∀ c : Nat, c ≠ la → c ≠ bk → (∀ j : Nat, j ≤ 14 → c ≠ N j) → ∀ i : Nat, w c i = u c i
section Begin
variable {N : Nat → Nat} {la bk a2 b bq bf : Nat} {A B : Int → Int → Int → Int} {D p : Int} {u v w y z : fx_U}
theorem zn_cs.rf : zn_cs N la bk u u := ⟨fun _ _ _ _ _ => rfl, fun _ _ => rfl⟩
theorem zn_cs.tr (h : zn_cs N la bk u w) (k : zn_cs N la bk w y) : zn_cs N la bk u y := ⟨fun c h0 h1 h2 i => (k.1 c h0 h1 h2 i).trans (h.1 c h0 h1 h2 i), fun j hj => (k.2 j hj).trans (h.2 j hj)⟩
theorem zn_cs.pt (X : zn_X N la bk) {r i : Nat} {x : Int} (r1 : 5 ≤ r ∧ r ≤ 11) : zn_cs N la bk u (fx_pt u (N r) i x) := ⟨fun _ _ _ h2 _ => zz_pa (h2 r r1.1 r1.2), fun _ _ => zz_pa (X.2.1 r (by omega)).1.symm⟩
theorem zn_cs.fa (k : zv_fa la bk u w) : zn_cs N la bk u w := ⟨fun c h0 h1 _ i => k.1 c h0 h1 i, k.2⟩
theorem zn_cs.N0 (X : zn_X N la bk) (h : zn_cs N la bk u w) : ∀ i : Nat, w (N 0) i = u (N 0) i := fun i => h.1 (N 0) (X.2.1 0 (by decide)).1 (X.2.1 0 (by decide)).2 (fun j h1 h2 => X.1 j 0 (by omega) (by decide) (Or.inr ⟨h1, h2⟩) (by omega)) i
theorem zn_cs.Nj (X : zn_X N la bk) (h : zn_cs N la bk u w) {j : Nat} (hj : j ≤ 14) (h2 : j < 5 ∨ 11 < j) : ∀ i : Nat, w (N j) i = u (N j) i := fun i => h.1 (N j) (X.2.1 j hj).1 (X.2.1 j hj).2 (fun k h3 h4 => X.1 k j (by omega) hj (Or.inr ⟨h3, h4⟩) (by omega)) i
theorem zn_cs.ca (X : zn_X N la bk) (h : zn_cs N la bk u w) : zn_ca N la bk u w := ⟨fun c h0 h1 _ h2 i => h.1 c h0 h1 h2 i, h.2, fun j _ => h.N0 X j⟩
theorem zn_cs.fr (h : zn_cs N la bk u w) : zn_fr N la bk u w := fun c h0 h1 h2 i => h.1 c h0 h1 (fun j _ hj => h2 j (by omega)) i
theorem zn_ca.fr (h : zn_ca N la bk u w) : zn_fr N la bk u w := fun c h0 h1 h2 i => h.1 c h0 h1 (h2 0 (by decide)) (fun j _ hj => h2 j (by omega)) i
theorem zn_fr.rf : zn_fr N la bk u u := fun _ _ _ _ _ => rfl
theorem zn_fr.tr (h : zn_fr N la bk u w) (k : zn_fr N la bk w y) : zn_fr N la bk u y := fun c h0 h1 h2 i => (k c h0 h1 h2 i).trans (h c h0 h1 h2 i)
theorem zn_fr.pt {r i : Nat} {x : Int} (hr : r ≤ 14) : zn_fr N la bk u (fx_pt u (N r) i x) := fun _ _ _ h2 _ => zz_pa (h2 r hr)
theorem zn_ca.rf : zn_ca N la bk u u := ⟨fun _ _ _ _ _ _ => rfl, fun _ _ => rfl, fun _ _ => rfl⟩
theorem zn_ca.tr (h : zn_ca N la bk u w) (k : zn_ca N la bk w y) : zn_ca N la bk u y := ⟨fun c h0 h1 h2 h3 i => (k.1 c h0 h1 h2 h3 i).trans (h.1 c h0 h1 h2 h3 i), fun j hj => (k.2.1 j hj).trans (h.2.1 j hj), fun j hj => (k.2.2 j hj).trans (h.2.2 j hj)⟩
theorem zn_ra.rf : zn_ra a2 b bq bf v v := ⟨fun _ _ _ _ _ _ => rfl, fun _ _ => rfl, fun _ _ => rfl⟩
theorem zn_ra.tr (h : zn_ra a2 b bq bf v w) (k : zn_ra a2 b bq bf w z) : zn_ra a2 b bq bf v z := ⟨fun c h0 h1 h2 h3 i => (k.1 c h0 h1 h2 h3 i).trans (h.1 c h0 h1 h2 h3 i), fun j hj => (k.2.1 j hj).trans (h.2.1 j hj), fun j hj => (k.2.2 j hj).trans (h.2.2 j hj)⟩
theorem zn_ra.pt (Y : zn_Y a2 b bq bf) {i : Nat} {x : Int} (h1 : 256 ≤ i) (h2 : i ≠ 512) : zn_ra a2 b bq bf v (fx_pt v b i x) := ⟨fun _ _ h _ _ _ => zz_pa h, fun _ _ => zz_pa Y.1.2, fun _ _ => zz_pj (by omega)⟩
theorem zn_ra.fb (Y : zn_Y a2 b bq bf) (k : zv_fb bq bf v w) : zn_ra a2 b bq bf v w := ⟨fun c _ _ h1 h2 i => k c h1 h2 i, fun j _ => k a2 Y.2.1.1 Y.2.1.2 j, fun j _ => k b Y.2.2.1 Y.2.2.2 j⟩
theorem zn_qc.mv (h : zn_qc N la bk A B D u) (k : zn_ca N la bk u w) : zn_qc N la bk A B D w := fun y hy => h y (k.tr hy)
theorem zn_qr.mv (h : zn_qr a2 b bq bf A B D v) (k : zn_ra a2 b bq bf v w) : zn_qr a2 b bq bf A B D w := fun y hy => h y (k.tr hy)
theorem zn_P.cs (X : zn_X N la bk) (h : zn_P N u) (k : zn_cs N la bk u w) : zn_P N w := fun j h1 h2 => (k.N0 X j).trans (h j h1 h2)
theorem zn_Dm {j : Nat} (h : zn_D N b u v j) (k : w (N 4) j = u (N 4) j ∧ w (N 5) j = u (N 5) j ∧ w (N 6) j = u (N 6) j ∧ w (N 7) j = u (N 7) j ∧ w (N 8) j = u (N 8) j) (r : z b (192 + j) = v b (192 + j) ∧ z b (256 + j) = v b (256 + j) ∧ z b (320 + j) = v b (320 + j) ∧ z b (384 + j) = v b (384 + j) ∧ z b (448 + j) = v b (448 + j)) : zn_D N b w z j := by
  obtain ⟨k4, k5, k6, k7, k8⟩ := k
  obtain ⟨r1, r2, r3, r4, r5⟩ := r
  unfold zn_D at h ⊢
  rw [k4, k5, k6, k7, k8, r1, r2, r3, r4, r5]
  exact h
theorem zn_Am {a : Nat} (h : zn_A N b D u v a) (k : w (N 9) a = u (N 9) a ∧ w (N 10) a = u (N 10) a ∧ w (N 11) a = u (N 11) a ∧ w (N 12) a = u (N 12) a) (k5 : u (N 10) a ≠ -2 → w (N 5) (u (N 10) a).toNat = u (N 5) (u (N 10) a).toNat) (r : z b (516 + a) = v b (516 + a) ∧ z b (518 + a) = v b (518 + a) ∧ z b (520 + a) = v b (520 + a) ∧ z b (522 + a) = v b (522 + a)) : zn_A N b D w z a := by
  obtain ⟨k9, k10, k11, k12⟩ := k
  obtain ⟨r1, r2, r3, r4⟩ := r
  obtain ⟨h1, h2, h3, h4⟩ := h
  unfold zn_A
  rw [k9, k10, k11, k12, r1, r2, r3, r4]
  refine ⟨h1, h2, h3, ?_⟩
  rcases h4 with h | ⟨g1, g2, g3⟩
  · exact Or.inl h
  · exact Or.inr ⟨g1, (k5 (by omega)).trans g2, g3⟩
theorem zn_Cm {c : Nat} (h : zn_C N b u v c) (k : w (N 13) c = u (N 13) c ∧ w (N 14) c = u (N 14) c) (r : z b 524 = v b 524 ∧ z b (525 + c) = v b (525 + c) ∧ z b (537 + c) = v b (537 + c)) : zn_C N b w z c := by
  obtain ⟨k1, k2⟩ := k
  obtain ⟨r1, r2, r3⟩ := r
  have e : f_X12_has z (v b 524) (c : Int) = f_X12_has v (v b 524) (c : Int) := rfl
  unfold zn_C at h ⊢
  rw [k1, k2, r1, r2, r3, e]
  exact h
theorem zn_Gm (h : zn_G N b D u v) (k : ∀ i : Nat, w (N 0) i = u (N 0) i) (r : z b 512 = v b 512 ∧ z b 513 = v b 513 ∧ z b 514 = v b 514 ∧ z b 515 = v b 515) : zn_G N b D w z := by
  obtain ⟨r1, r2, r3, r4⟩ := r
  unfold zn_G at h ⊢
  rw [k 0, k 15, k 16, k 17, r1, r2, r3, r4]
  exact h
theorem zn_AA (hp : p = 0 ∨ p = 1) (h1 : zn_A N b D w z p.toNat) (h2 : zn_A N b D w z (1 - p.toNat)) : zn_A N b D w z 0 ∧ zn_A N b D w z 1 := by
  rcases hp with e | e
  · rw [e] at h1 h2
    exact ⟨h1, h2⟩
  · rw [e] at h1 h2
    exact ⟨h2, h1⟩
theorem zn_Aa (hp : p = 0 ∨ p = 1) (h : zn_A N b D w z 0 ∧ zn_A N b D w z 1) : zn_A N b D w z p.toNat ∧ zn_A N b D w z (1 - p.toNat) := by
  rcases hp with e | e
  · rw [e]
    exact ⟨h.1, h.2⟩
  · rw [e]
    exact ⟨h.2, h.1⟩
/-- both parties paint different dots: of one and of the other -/
theorem zn_ne (hp : p = 0 ∨ p = 1) : (u (N 10) 0 = u (N 10) 1 → u (N 10) 0 = -2) ↔ (u (N 10) p.toNat = u (N 10) (1 - p.toNat) → u (N 10) p.toNat = -2) := by
  rcases hp with e | e
  · rw [e]
    exact Iff.rfl
  · rw [e]
    show (u (N 10) 0 = u (N 10) 1 → u (N 10) 0 = -2) ↔ (u (N 10) 1 = u (N 10) 0 → u (N 10) 1 = -2)
    exact ⟨fun h k => k.trans (h k.symm), fun h k => k.trans (h k.symm)⟩
/-- places away from what a party that begins writes, and one that paints on -/
def zn_a2 (k j : Nat) : Prop := j ≠ 522 + k ∧ j ≠ 520 + k
theorem zn_a2.lo {k j : Nat} (h : j < 520) : zn_a2 k j := ⟨by omega, by omega⟩
theorem zn_a2.hi {k j : Nat} (hk : k = 0 ∨ k = 1) (h : 524 ≤ j) : zn_a2 k j := ⟨by omega, by omega⟩
theorem zn_l64 {j : Nat} (hj : j < 64) : 192 + j < 520 ∧ 256 + j < 520 ∧ 320 + j < 520 ∧ 384 + j < 520 ∧ 448 + j < 520 := by omega
theorem zn_c525 (c : Nat) : 524 ≤ 525 + c ∧ 524 ≤ 537 + c := by omega
theorem zn_k516 {k : Nat} (hk : k = 0 ∨ k = 1) : 516 + k < 520 ∧ 518 + k < 520 ∧ 516 + (1 - k) < 520 ∧ 518 + (1 - k) < 520 := by omega
theorem zn_a2.ot {k : Nat} (hk : k = 0 ∨ k = 1) : zn_a2 k (520 + (1 - k)) ∧ zn_a2 k (522 + (1 - k)) := ⟨⟨by omega, by omega⟩, by omega, by omega⟩
theorem zn_no {k : Nat} (hk : k = 0 ∨ k = 1) : 1 - k ≠ k := by omega
set_option maxHeartbeats 8000000 in
theorem zn_begin (X : zn_X N la bk) (Y : zn_Y a2 b bq bf) (hP : zn_P N u) (h0 : v a2 0 = (b : Int)) (hR : zn_R N b D u v) (hD : 8 ≤ D ∧ D ≤ 64) (qc : zn_qc N la bk A B D u) (qr : zn_qr a2 b bq bf A B D v) (bd : zp_bd A B D) (hp : p = 0 ∨ p = 1) : ∃ w : fx_U, (∀ rc : Int → fx_U → fx_U, kB_X5_beginDots_2 rc (N 0) la p u = rc (p + 1) w) ∧ zn_cs N la bk u w ∧ zn_ra a2 b bq bf v (f_X12_beginsWith v a2 p) ∧ (f_X12_beginsWith v a2 p) a2 29 = v a2 29 ∧ zn_R N b D w (f_X12_beginsWith v a2 p) := by
  have p9 := hP 9 (by decide) (by decide)
  have p10 := hP 10 (by decide) (by decide)
  have p11 := hP 11 (by decide) (by decide)
  have lt2 : p < 2 := by omega
  have q1 : (516 + p).toNat = 516 + p.toNat := by omega
  have q2 : (520 + p).toNat = 520 + p.toNat := by omega
  have q3 : (522 + p).toNat = 522 + p.toNat := by omega
  have t3 : Int.toNat 513 = 513 := rfl
  have t4 : Int.toNat 514 = 514 := rfl
  have pn : p.toNat = 0 ∨ p.toNat = 1 := by omega
  have nx := zn_next hP h0 hR hD p hp
  have cn := zn_cones hP h0 hR hD
  have hR0 := hR
  obtain ⟨hG, hd, hAA, hne, hC⟩ := hR
  obtain ⟨hA, hO⟩ := zn_Aa hp hAA
  have hne2 := (zn_ne hp).1 hne
  have gG := hG
  obtain ⟨⟨g1, g2⟩, g3, -, g5, g6, g7⟩ := hG
  obtain ⟨e9, e12, e10, -⟩ := hA
  have n010 : N 0 ≠ N 10 := X.1 10 0 (by decide) (by decide) (Or.inr ⟨by decide, by decide⟩) (by decide)
  by_cases c1 : u (N 9) p.toNat = 0
  · have eB : f_X12_beginsWith v a2 p = v := by
      unfold f_X12_beginsWith
      simp only [fz_lr, fz_lt, h0, Int.toNat_natCast, q1]
      rw [if_pos (e9.symm.trans c1)]
    rw [eB]
    refine ⟨u, fun rc => ?_, zn_cs.rf, zn_ra.rf, rfl, hR0⟩
    unfold kB_X5_beginDots_2 kJ_X5_beginDots_90
    simp only [fz_lr, fz_lt, fz_ls, fz_lc, p9, Int.toNat_natCast]
    rw [if_pos lt2, if_pos c1]
  · have c1' : ¬ v b (516 + p.toNat) = 0 := fun h => c1 (e9.trans h)
    by_cases c2 : u (N 10) p.toNat = -2
    · have c2' : v b (520 + p.toNat) = -2 := e10.symm.trans c2
      rcases nx with ⟨x1, x2⟩ | ⟨x1, x2, x3, x4, x5⟩
      · have eB : f_X12_beginsWith v a2 p = fx_pt v b (516 + p.toNat) 0 := by
          unfold f_X12_beginsWith
          simp only [fz_lr, fz_lt, fz_ls, h0, Int.toNat_natCast, q1, q2]
          rw [if_neg c1', if_pos c2', if_pos x2]
        rw [eB]
        have F := zn_cs.pt (u := u) (i := p.toNat) (x := 0) X (r := 9) ⟨by decide, by decide⟩
        have nk : ∀ k : Nat, k ≤ 14 → k ≠ 9 → N k ≠ N 9 := fun k k1 k2 => X.1 9 k (by decide) k1 (Or.inr ⟨by decide, by decide⟩) (fun h => k2 h.symm)
        refine ⟨fx_pt u (N 9) p.toNat 0, fun rc => ?_, F, zn_ra.pt Y (by omega) (by omega), zz_pa Y.1.2, ?_⟩
        · unfold kB_X5_beginDots_2 kJ_X5_beginDots_90
          simp only [fz_lr, fz_lt, fz_ls, fz_lc, p9, p10, Int.toNat_natCast]
          rw [if_pos lt2, if_neg c1, if_pos c2, if_pos x1]
        · refine ⟨zn_Gm gG (F.N0 X) ⟨zz_pj (by omega), zz_pj (by omega), zz_pj (by omega), zz_pj (by omega)⟩, fun j hj => zn_Dm (hd j hj) ⟨zz_pa (nk 4 (by decide) (by decide)), zz_pa (nk 5 (by decide) (by decide)), zz_pa (nk 6 (by decide) (by decide)), zz_pa (nk 7 (by decide) (by decide)), zz_pa (nk 8 (by decide) (by decide))⟩ ⟨zz_pj (by omega), zz_pj (by omega), zz_pj (by omega), zz_pj (by omega), zz_pj (by omega)⟩, zn_AA hp ?_ ?_, ?_, fun c hc => zn_Cm (hC c hc) ⟨zz_pa (nk 13 (by decide) (by decide)), zz_pa (nk 14 (by decide) (by decide))⟩ ⟨zz_pj (by omega), zz_pj (by omega), zz_pj (by omega)⟩⟩
          · have y10 : fx_pt u (N 9) p.toNat 0 (N 10) p.toNat = u (N 10) p.toNat := zz_pa (nk 10 (by decide) (by decide))
            have y12 : fx_pt u (N 9) p.toNat 0 (N 12) p.toNat = u (N 12) p.toNat := zz_pa (nk 12 (by decide) (by decide))
            have z1 : fx_pt v b (516 + p.toNat) 0 b (518 + p.toNat) = v b (518 + p.toNat) := zz_pj (by omega)
            have z2 : fx_pt v b (516 + p.toNat) 0 b (520 + p.toNat) = v b (520 + p.toNat) := zz_pj (by omega)
            refine ⟨zz_ps.trans zz_ps.symm, ?_, ?_, Or.inl (y10.trans c2)⟩
            · rw [y12, z1]
              exact e12
            · rw [y10, z2]
              exact e10
          · exact zn_Am hO ⟨zz_pj (by omega), zz_pa (nk 10 (by decide) (by decide)), zz_pa (nk 11 (by decide) (by decide)), zz_pa (nk 12 (by decide) (by decide))⟩ (fun _ => zz_pa (nk 5 (by decide) (by decide))) ⟨zz_pj (by omega), zz_pj (by omega), zz_pj (by omega), zz_pj (by omega)⟩
          · have k0 : fx_pt u (N 9) p.toNat 0 (N 10) 0 = u (N 10) 0 := zz_pa (nk 10 (by decide) (by decide))
            have k1 : fx_pt u (N 9) p.toNat 0 (N 10) 1 = u (N 10) 1 := zz_pa (nk 10 (by decide) (by decide))
            rw [k0, k1]
            exact hne
      · obtain ⟨i, hi⟩ : ∃ i : Int, i = f_X12_nextOf v a2 p := ⟨_, rfl⟩
        rw [← hi] at x1 x2 x3 x4 x5
        have ni2 : ¬ i = -2 := by omega
        have ni1 : ¬ i = -1 := by omega
        by_cases c3 : f_X7_conesInUse u (N 0) < u (N 0) 15
        · have c3' : f_X12_busy v a2 (v b 513) < v b 514 := by
            rw [← cn, ← g3]
            exact c3
          obtain ⟨u1, hu1⟩ : ∃ x : fx_U, x = fx_pt u (N 10) p.toNat i := ⟨_, rfl⟩
          obtain ⟨v1, hv1⟩ : ∃ x : fx_U, x = fx_pt v b (520 + p.toNat) i := ⟨_, rfl⟩
          have F1 : zn_cs N la bk u u1 := by
            rw [hu1]
            exact zn_cs.pt X ⟨by decide, by decide⟩
          have G1 : zn_ra a2 b bq bf v v1 := by
            rw [hv1]
            exact zn_ra.pt Y (by omega) (by omega)
          obtain ⟨⟨u2, a1, f2⟩, -⟩ := qc u1 (F1.ca X) i (u (N 0) 17) p x2.1 x2.2 hp
          obtain ⟨⟨v2, b1, f3⟩, -⟩ := qr v1 G1 i (v b 513) p x2.1 x2.2 hp
          obtain ⟨⟨m1, m2⟩, -⟩ := bd i (v b 513) p x2.1 x2.2 hp
          rw [g5] at a1
          obtain ⟨M, hM⟩ : ∃ M : Int, M = A i (v b 513) p := ⟨_, rfl⟩
          rw [← hM] at a1 b1 m1 m2
          have v513 : v1 b 513 = v b 513 := by
            rw [hv1]
            exact zz_pj (by omega)
          have u017 : u1 (N 0) 17 = v b 513 := (F1.N0 X 17).trans g5
          have u011 : u1 (N 0) 11 = (N 11 : Int) := (F1.N0 X 11).trans p11
          have eB : f_X12_beginsWith v a2 p = fx_pt v2 b (522 + p.toNat) M := by
            unfold f_X12_beginsWith
            simp only [fz_lr, fz_lt, fz_ls, h0, Int.toNat_natCast, q1, q2, q3, t3, t4, ← hi, ← hv1, v513, b1, fz_lc]
            rw [if_neg c1', if_pos c2', if_neg ni1, if_pos c3']
          have nk : ∀ r k : Nat, 5 ≤ r → r ≤ 11 → k ≤ 14 → k ≠ r → N k ≠ N r := fun r k r1 r2 k1 k2 => X.1 r k (by omega) k1 (Or.inr ⟨r1, r2⟩) (fun h => k2 h.symm)
          have U : ∀ k j : Nat, k ≤ 14 → (k ≠ 11 ∨ j ≠ p.toNat) → (k ≠ 10 ∨ j ≠ p.toNat) → fx_pt u2 (N 11) p.toNat M (N k) j = u (N k) j := fun k j k1 k2 k3 => by
            have s1 : fx_pt u2 (N 11) p.toNat M (N k) j = u2 (N k) j := by
              rcases k2 with h | h
              · exact zz_pa (nk 11 k (by decide) (by decide) k1 h)
              · exact zz_pj h
            have s2 : u1 (N k) j = u (N k) j := by
              rw [hu1]
              rcases k3 with h | h
              · exact zz_pa (nk 10 k (by decide) (by decide) k1 h)
              · exact zz_pj h
            exact s1.trans ((f2.1 (N k) (X.2.1 k k1).1 (X.2.1 k k1).2 j).trans s2)
          have V : ∀ j : Nat, j ≠ 522 + p.toNat → j ≠ 520 + p.toNat → fx_pt v2 b (522 + p.toNat) M b j = v b j := fun j j1 j2 => by
            have s2 : v1 b j = v b j := by
              rw [hv1]
              exact zz_pj j2
            exact (zz_pj j1).trans ((f3 b Y.2.2.1 Y.2.2.2 j).trans s2)
          have VV : ∀ j : Nat, zn_a2 p.toNat j → fx_pt v2 b (522 + p.toNat) M b j = v b j := fun j h => V j h.1 h.2
          have U10 : fx_pt u2 (N 11) p.toNat M (N 10) p.toNat = i := by
            refine (zz_pa (nk 11 10 (by decide) (by decide) (by decide) (by decide))).trans ((f2.1 (N 10) (X.2.1 10 (by decide)).1 (X.2.1 10 (by decide)).2 p.toNat).trans ?_)
            rw [hu1]
            exact zz_ps
          have V10 : fx_pt v2 b (522 + p.toNat) M b (520 + p.toNat) = i := by
            refine (zz_pj (by omega)).trans ((f3 b Y.2.2.1 Y.2.2.2 (520 + p.toNat)).trans ?_)
            rw [hv1]
            exact zz_ps
          have x6 : u (N 10) (1 - p.toNat) ≠ i := by
            rcases pn with e | e
            · rw [e]
              exact x5
            · rw [e]
              exact x4
          rw [eB]
          refine ⟨fx_pt u2 (N 11) p.toNat M, fun rc => ?_, (F1.tr (zn_cs.fa f2)).tr (zn_cs.pt X ⟨by decide, by decide⟩), (G1.tr (zn_ra.fb Y f3)).tr (zn_ra.pt Y (by omega) (by omega)), ?_, ?_⟩
          · unfold kB_X5_beginDots_2 kJ_X5_beginDots_90
            simp only [fz_lr, fz_lt, fz_ls, p9, p10, Int.toNat_natCast, x1, ← hu1, u017, u011, a1, fz_lc]
            rw [if_pos lt2, if_neg c1, if_pos c2, if_neg ni2, if_pos c3]
          · refine (zz_pa Y.1.2).trans ((f3 a2 Y.2.1.1 Y.2.1.2 29).trans ?_)
            rw [hv1]
            exact zz_pa Y.1.2
          · refine ⟨zn_Gm gG (fun j => U 0 j (by decide) (Or.inl (by decide)) (Or.inl (by decide))) ⟨VV 512 (zn_a2.lo (by decide)), VV 513 (zn_a2.lo (by decide)), VV 514 (zn_a2.lo (by decide)), VV 515 (zn_a2.lo (by decide))⟩, fun j hj => zn_Dm (hd j hj) ⟨U 4 j (by decide) (Or.inl (by decide)) (Or.inl (by decide)), U 5 j (by decide) (Or.inl (by decide)) (Or.inl (by decide)), U 6 j (by decide) (Or.inl (by decide)) (Or.inl (by decide)), U 7 j (by decide) (Or.inl (by decide)) (Or.inl (by decide)), U 8 j (by decide) (Or.inl (by decide)) (Or.inl (by decide))⟩ ⟨VV _ (zn_a2.lo (zn_l64 hj).1), VV _ (zn_a2.lo (zn_l64 hj).2.1), VV _ (zn_a2.lo (zn_l64 hj).2.2.1), VV _ (zn_a2.lo (zn_l64 hj).2.2.2.1), VV _ (zn_a2.lo (zn_l64 hj).2.2.2.2)⟩, zn_AA hp ?_ ?_, (zn_ne hp).2 ?_, fun c hc => zn_Cm (hC c hc) ⟨U 13 c (by decide) (Or.inl (by decide)) (Or.inl (by decide)), U 14 c (by decide) (Or.inl (by decide)) (Or.inl (by decide))⟩ ⟨VV _ (zn_a2.hi pn (Nat.le_refl 524)), VV _ (zn_a2.hi pn (zn_c525 c).1), VV _ (zn_a2.hi pn (zn_c525 c).2)⟩⟩
            · unfold zn_A
              rw [U10, V10, U 9 _ (by decide) (Or.inl (by decide)) (Or.inl (by decide)), U 12 _ (by decide) (Or.inl (by decide)) (Or.inl (by decide)), U 5 _ (by decide) (Or.inl (by decide)) (Or.inl (by decide)), VV (516 + p.toNat) (zn_a2.lo (zn_k516 pn).1), VV (518 + p.toNat) (zn_a2.lo (zn_k516 pn).2.1), zz_ps, zz_ps]
              exact ⟨e9, e12, rfl, Or.inr ⟨x2, x3, rfl, m1, m2⟩⟩
            · exact zn_Am hO ⟨U 9 _ (by decide) (Or.inl (by decide)) (Or.inl (by decide)), U 10 _ (by decide) (Or.inl (by decide)) (Or.inr (zn_no pn)), U 11 _ (by decide) (Or.inr (zn_no pn)) (Or.inl (by decide)), U 12 _ (by decide) (Or.inl (by decide)) (Or.inl (by decide))⟩ (fun _ => U 5 _ (by decide) (Or.inl (by decide)) (Or.inl (by decide))) ⟨VV _ (zn_a2.lo (zn_k516 pn).2.2.1), VV _ (zn_a2.lo (zn_k516 pn).2.2.2), VV _ (zn_a2.ot pn).1, VV _ (zn_a2.ot pn).2⟩
            · rw [U10, U 10 (1 - p.toNat) (by decide) (Or.inl (by decide)) (Or.inr (zn_no pn))]
              exact fun h => absurd h.symm x6
        · have c3' : ¬ f_X12_busy v a2 (v b 513) < v b 514 := by
            rw [← cn, ← g3]
            exact c3
          have eB : f_X12_beginsWith v a2 p = v := by
            unfold f_X12_beginsWith
            simp only [fz_lr, fz_lt, h0, Int.toNat_natCast, q1, q2, t3, t4, ← hi]
            rw [if_neg c1', if_pos c2', if_neg ni1, if_neg c3']
          rw [eB]
          refine ⟨u, fun rc => ?_, zn_cs.rf, zn_ra.rf, rfl, hR0⟩
          unfold kB_X5_beginDots_2 kJ_X5_beginDots_90
          simp only [fz_lr, fz_lt, fz_ls, fz_lc, p9, p10, Int.toNat_natCast, x1]
          rw [if_pos lt2, if_neg c1, if_pos c2, if_neg ni2, if_neg c3]
    · have c2' : ¬ v b (520 + p.toNat) = -2 := fun h => c2 (e10.trans h)
      have eB : f_X12_beginsWith v a2 p = v := by
        unfold f_X12_beginsWith
        simp only [fz_lr, fz_lt, h0, Int.toNat_natCast, q1, q2]
        rw [if_neg c1', if_neg c2']
      rw [eB]
      refine ⟨u, fun rc => ?_, zn_cs.rf, zn_ra.rf, rfl, hR0⟩
      unfold kB_X5_beginDots_2 kJ_X5_beginDots_90
      simp only [fz_lr, fz_lt, fz_ls, fz_lc, p9, p10, Int.toNat_natCast]
      rw [if_pos lt2, if_neg c1, if_neg c2]
end Begin
