/-! THE NIGHT: what a driver believes, what is lost, where to burn first -/
/-- what is believed, by how plain each is -/
def zo_v (po pn s : Int) : Int := if po = 0 then (if pn = 0 then 0 else if po = pn then (if s = 0 then 2 else 1) else if pn < po then 1 else 2) else if po = pn then (if s = 0 then 2 else 1) else if pn < po then 1 else 2
theorem zo_v0 (po s s2 : Int) : zo_v po 0 s = zo_v po 0 s2 := by
  unfold zo_v
  by_cases h : po = 0
  · simp only [if_pos h, if_true]
  · simp only [if_neg h]
/-- what the class's calls leave: the law's work places and one row beside -/
def zo_f (la bk lo : Nat) (u w : fx_U) : Prop := (∀ c : Nat, c ≠ la → c ≠ bk → c ≠ lo → ∀ i : Nat, w c i = u c i) ∧ ∀ j : Nat, j < 9 → w la j = u la j
def zo_c (N : Nat → Nat) (la bk lo : Nat) (Ao Al : Int → Int) (M x D : Int) (u : fx_U) : Prop := ∀ w : fx_U, zo_f la bk lo u w → ∀ i : Int, 0 ≤ i → i < D → (∃ y : fx_U, f_X3_ask w la 111 (N 0) i M 0 x = (Ao i, y) ∧ zv_fa la bk w y) ∧ ∃ y : fx_U, f_X3_ask w la 108 (N 0) i M 0 x = (Al i, y) ∧ zv_fa la bk w y
def zo_r (a2 bq bf : Nat) (Ao Al : Int → Int) (x D : Int) (v : fx_U) : Prop := ∀ z : fx_U, zv_fb bq bf v z → ∀ i : Int, 0 ≤ i → i < D → (∃ y : fx_U, f_X12_plain z a2 i 111 x = (Ao i, y) ∧ zv_fb bq bf z y) ∧ ∃ y : fx_U, f_X12_plain z a2 i 108 x = (Al i, y) ∧ zv_fb bq bf z y
def zo_b (N : Nat → Nat) (Ao Al : Int → Int) (u : fx_U) (i : Int) : Int := zo_v (if u (N 4) i.toNat = -100 then 0 else Ao i) (if u (N 8) i.toNat = -2 then (if u (N 5) i.toNat = -100 then 0 else Al i) else (if u (N 5) i.toNat = -100 then 0 else Al i) / 2) (if u (N 8) i.toNat = -2 then 0 else 1)
/-- all that does not change while it is asked -/
def zo_H (N : Nat → Nat) (la bk lo a2 b bq bf : Nat) (Ao Al : Int → Int) (M x D : Int) (u v : fx_U) : Prop := ((∀ j : Nat, j ≤ 14 → N j ≠ la ∧ N j ≠ bk ∧ N j ≠ lo) ∧ lo ≠ la ∧ lo ≠ bk) ∧ ((b ≠ bq ∧ b ≠ bf) ∧ a2 ≠ bq ∧ a2 ≠ bf) ∧ (zn_P N u ∧ v a2 0 = (b : Int) ∧ zn_R N b D u v ∧ u (N 0) 17 = M) ∧ (∀ k : Nat, k < 64 → u (N 1) k = v b k) ∧ (8 ≤ D ∧ D ≤ 64) ∧ (x = 0 ∨ x = 1) ∧ zo_c N la bk lo Ao Al M x D u ∧ zo_r a2 bq bf Ao Al x D v
section Lost
variable {N : Nat → Nat} {la bk lo a1 a2 b bq bf : Nat} {Ao Al : Int → Int} {M x D i : Int} {u v w z y : fx_U}
theorem zo_f.rf : zo_f la bk lo u u := ⟨fun _ _ _ _ _ => rfl, fun _ _ => rfl⟩
theorem zo_f.tr (h : zo_f la bk lo u w) (k : zo_f la bk lo w y) : zo_f la bk lo u y := ⟨fun c h0 h1 h2 i => (k.1 c h0 h1 h2 i).trans (h.1 c h0 h1 h2 i), fun j hj => (k.2 j hj).trans (h.2 j hj)⟩
theorem zo_f.fa (k : zv_fa la bk u w) : zo_f la bk lo u w := ⟨fun c h0 h1 _ i => k.1 c h0 h1 i, k.2⟩
theorem zo_f.pt {j : Nat} {m : Int} (h : lo ≠ la) : zo_f la bk lo u (fx_pt u lo j m) := ⟨fun _ _ _ h2 _ => zz_pa h2, fun _ _ => zz_pa h.symm⟩
theorem zo_fa.rf : zv_fa la bk u u := ⟨fun _ _ _ _ => rfl, fun _ _ => rfl⟩
theorem zo_fa.tr (h : zv_fa la bk u w) (k : zv_fa la bk w y) : zv_fa la bk u y := ⟨fun c h0 h1 i => (k.1 c h0 h1 i).trans (h.1 c h0 h1 i), fun j hj => (k.2 j hj).trans (h.2 j hj)⟩
theorem zo_b.tr (h : zv_fb bq bf u w) (k : zv_fb bq bf w y) : zv_fb bq bf u y := fun c h0 h1 i => (k c h0 h1 i).trans (h c h0 h1 i)
theorem zo_b.rf : zv_fb bq bf u u := fun _ _ _ _ => rfl
/-- the state of both, later on -/
theorem zo_st (H : zo_H N la bk lo a2 b bq bf Ao Al M x D u v) (f : zo_f la bk lo u w) (g : zv_fb bq bf v z) : (zn_P N w ∧ z a2 0 = (b : Int) ∧ zn_R N b D w z ∧ w (N 0) 17 = M) ∧ (∀ k : Nat, k ≤ 14 → ∀ j : Nat, w (N k) j = u (N k) j) ∧ ∀ j : Nat, z b j = v b j := by
  obtain ⟨⟨hn, -, -⟩, ⟨⟨b1, b2⟩, b3, b4⟩, ⟨hP, h0, hR, hM⟩, -⟩ := H
  have k1 : ∀ k : Nat, k ≤ 14 → ∀ j : Nat, w (N k) j = u (N k) j := fun k hk j => f.1 (N k) (hn k hk).1 (hn k hk).2.1 (hn k hk).2.2 j
  have k2 : ∀ j : Nat, z b j = v b j := g b b1 b2
  refine ⟨⟨fun j j1 j2 => (k1 0 (by decide) j).trans (hP j j1 j2), (g a2 b3 b4 0).trans h0, ?_, (k1 0 (by decide) 17).trans hM⟩, k1, k2⟩
  obtain ⟨hG, hd, ⟨hA0, hA1⟩, hne, hC⟩ := hR
  refine ⟨zn_Gm hG (k1 0 (by decide)) ⟨k2 _, k2 _, k2 _, k2 _⟩, fun j hj => zn_Dm (hd j hj) ⟨k1 4 (by decide) j, k1 5 (by decide) j, k1 6 (by decide) j, k1 7 (by decide) j, k1 8 (by decide) j⟩ ⟨k2 _, k2 _, k2 _, k2 _, k2 _⟩, ⟨zn_Am hA0 ⟨k1 9 (by decide) 0, k1 10 (by decide) 0, k1 11 (by decide) 0, k1 12 (by decide) 0⟩ (fun _ => k1 5 (by decide) _) ⟨k2 _, k2 _, k2 _, k2 _⟩, zn_Am hA1 ⟨k1 9 (by decide) 1, k1 10 (by decide) 1, k1 11 (by decide) 1, k1 12 (by decide) 1⟩ (fun _ => k1 5 (by decide) _) ⟨k2 _, k2 _, k2 _, k2 _⟩⟩, ?_, fun c hc => zn_Cm (hC c hc) ⟨k1 13 (by decide) c, k1 14 (by decide) c⟩ ⟨k2 _, k2 _, k2 _⟩⟩
  rw [k1 10 (by decide) 0, k1 10 (by decide) 1]
  exact hne
/-- in the class -/
theorem zo_bc (H : zo_H N la bk lo a2 b bq bf Ao Al M x D u v) (f : zo_f la bk lo u w) (i0 : 0 ≤ i) (i1 : i < D) : ∃ y : fx_U, f_X0_belief w (N 0) la i x = (zo_b N Ao Al u i, y) ∧ zv_fa la bk w y := by
  have H0 := H
  obtain ⟨-, -, -, -, -, hx, hc, -⟩ := H
  have A70 : ∀ (po pl : Int) (w : fx_U), zo_f la bk lo u w → kJ_X0_belief_70 (N 0) i po pl w = (zo_v po (if u (N 8) i.toNat = -2 then pl else pl / 2) (if u (N 8) i.toNat = -2 then 0 else 1), w) := by
    intro po pl w f
    obtain ⟨⟨hP, -, -, -⟩, k1, -⟩ := zo_st H0 f zo_b.rf
    have p8 := hP 8 (by decide) (by decide)
    have e8 := k1 8 (by decide) i.toNat
    have sp : f_X7_isSpoilt w (N 0) i = if u (N 8) i.toNat = -2 then 0 else 1 := by
      unfold f_X7_isSpoilt
      simp only [fz_lr, fz_lt, p8, Int.toNat_natCast, e8]
    unfold kJ_X0_belief_70 kJ_X0_belief_86 kJ_X0_belief_98 zo_v
    simp only [fz_lt, sp]
    by_cases q : u (N 8) i.toNat = -2
    · simp only [if_pos q, if_true]
      by_cases c1 : po = 0
      · simp only [if_pos c1]
        by_cases c2 : pl = 0
        · simp only [if_pos c2]
        · simp only [if_neg c2]
          by_cases c3 : po = pl
          · simp only [if_pos c3]
          · simp only [if_neg c3]
            by_cases c4 : pl < po
            · simp only [if_pos c4]
            · simp only [if_neg c4]
      · simp only [if_neg c1]
        by_cases c3 : po = pl
        · simp only [if_pos c3]
        · simp only [if_neg c3]
          by_cases c4 : pl < po
          · simp only [if_pos c4]
          · simp only [if_neg c4]
    · simp only [if_neg q, if_neg zz_n10]
      by_cases c1 : po = 0
      · simp only [if_pos c1]
        by_cases c2 : pl / 2 = 0
        · simp only [if_pos c2]
        · simp only [if_neg c2]
          by_cases c3 : po = pl / 2
          · simp only [if_pos c3]
          · simp only [if_neg c3]
            by_cases c4 : pl / 2 < po
            · simp only [if_pos c4]
            · simp only [if_neg c4]
      · simp only [if_neg c1]
        by_cases c3 : po = pl / 2
        · simp only [if_pos c3]
        · simp only [if_neg c3]
          by_cases c4 : pl / 2 < po
          · simp only [if_pos c4]
          · simp only [if_neg c4]
  have A41 : ∀ (po : Int) (w : fx_U), zo_f la bk lo u w → ∃ y : fx_U, kJ_X0_belief_41 (N 0) i la x po w = (zo_v po (if u (N 8) i.toNat = -2 then (if u (N 5) i.toNat = -100 then 0 else Al i) else (if u (N 5) i.toNat = -100 then 0 else Al i) / 2) (if u (N 8) i.toNat = -2 then 0 else 1), y) ∧ zv_fa la bk w y := by
    intro po w f
    obtain ⟨⟨hP, -, -, hM⟩, k1, -⟩ := zo_st H0 f zo_b.rf
    have p5 := hP 5 (by decide) (by decide)
    have e5 := k1 5 (by decide) i.toNat
    have pd : f_X7_isPainted w (N 0) i = if u (N 5) i.toNat = -100 then 0 else 1 := by
      unfold f_X7_isPainted
      simp only [fz_lr, fz_lt, p5, Int.toNat_natCast, e5]
    unfold kJ_X0_belief_41
    simp only [fz_lt, pd, hM]
    by_cases q : u (N 5) i.toNat = -100
    · simp only [if_pos q, if_true]
      exact ⟨w, A70 po 0 w f, zo_fa.rf⟩
    · obtain ⟨-, y, g1, g2⟩ := hc w f i i0 i1
      simp only [if_neg q, if_neg zz_n10, g1, fz_lc]
      exact ⟨y, A70 po (Al i) y (f.tr (zo_f.fa g2)), g2⟩
  have A9 : ∃ y : fx_U, kJ_X0_belief_9 w (N 0) i la x = (zo_b N Ao Al u i, y) ∧ zv_fa la bk w y := by
    obtain ⟨⟨hP, -, -, hM⟩, k1, -⟩ := zo_st H0 f zo_b.rf
    have p4 := hP 4 (by decide) (by decide)
    have e4 := k1 4 (by decide) i.toNat
    unfold kJ_X0_belief_9 zo_b
    simp only [fz_lr, fz_lt, p4, Int.toNat_natCast, e4, hM]
    by_cases q : u (N 4) i.toNat = -100
    · simp only [if_pos q]
      exact A41 0 w f
    · obtain ⟨⟨y, g1, g2⟩, -⟩ := hc w f i i0 i1
      simp only [if_neg q, g1, fz_lc]
      obtain ⟨y2, t1, t2⟩ := A41 (Ao i) y (f.tr (zo_f.fa g2))
      exact ⟨y2, t1, zo_fa.tr g2 t2⟩
  unfold f_X0_belief
  rcases hx with e | e
  · rw [e] at A9 ⊢
    rw [if_pos rfl]
    exact A9
  · rw [e] at A9 ⊢
    rw [if_neg zz_n10]
    exact A9
/-- in the reference -/
theorem zo_br (H : zo_H N la bk lo a2 b bq bf Ao Al M x D u v) (g : zv_fb bq bf v z) (i0 : 0 ≤ i) (i1 : i < D) : ∃ y : fx_U, f_X12_believedAt z a2 i x 0 = (zo_b N Ao Al u i, y) ∧ zv_fb bq bf v y := by
  have H0 := H
  obtain ⟨-, -, ⟨-, -, hR, -⟩, -, hD, -, -, hr⟩ := H
  obtain ⟨d1, d2, d3⟩ := hR.2.1 i.toNat (by omega)
  have k1 : (192 + i).toNat = 192 + i.toNat := by omega
  have k2 : (320 + i).toNat = 320 + i.toNat := by omega
  have k3 : (448 + i).toNat = 448 + i.toNat := by omega
  have pd : ∀ z : fx_U, zv_fb bq bf v z → f_X12_isPainted z a2 i = if u (N 5) i.toNat = -100 then 0 else 1 := fun z g => by
    obtain ⟨⟨hP, h0, hR2, -⟩, kk, -⟩ := zo_st H0 (zo_f.rf) g
    exact (zn_pd hP h0 (hR2.2.1 i.toNat (by omega)) i0).2
  have B108 : ∀ (po pn s : Int) (z : fx_U), kJ_X12_believedAt_108 po z s pn = (zo_v po pn s, z) := by
    intro po pn s z
    unfold kJ_X12_believedAt_108 kJ_X12_believedAt_120 zo_v
    have c5 : ∀ c3 : ¬ po = pn, (if po < pn then ((2 : Int), z) else (1, z)) = (if pn < po then (1 : Int) else 2, z) := fun c3 => by
      by_cases c4 : po < pn
      · rw [if_pos c4, if_neg (show ¬ pn < po by omega)]
      · rw [if_neg c4, if_pos (show pn < po by omega)]
    by_cases c1 : po = 0
    · rw [if_pos c1, if_pos c1]
      by_cases c2 : pn = 0
      · rw [if_pos c2, if_pos c2]
      · rw [if_neg c2, if_neg c2]
        by_cases c3 : po = pn
        · rw [if_pos c3, if_pos c3]
          by_cases c4 : s = 0
          · rw [if_pos c4, if_pos c4]
          · rw [if_neg c4, if_neg c4]
        · rw [if_neg c3, if_neg c3]
          exact c5 c3
    · rw [if_neg c1, if_neg c1]
      by_cases c3 : po = pn
      · rw [if_pos c3, if_pos c3]
        by_cases c4 : s = 0
        · rw [if_pos c4, if_pos c4]
        · rw [if_neg c4, if_neg c4]
      · rw [if_neg c3, if_neg c3]
        exact c5 c3
  have B65 : ∀ (po pl : Int) (z : fx_U), zv_fb bq bf v z → (u (N 5) i.toNat = -100 → pl = 0) → kJ_X12_believedAt_65 a2 i po b pl z = (zo_v po (if u (N 8) i.toNat = -2 then pl else pl / 2) (if u (N 8) i.toNat = -2 then 0 else 1), z) := by
    intro po pl z g hpl
    obtain ⟨-, -, kb⟩ := zo_st H0 (zo_f.rf) g
    have e8 : z b (448 + i.toNat) = u (N 8) i.toNat := (kb _).trans d2.symm
    unfold kJ_X12_believedAt_65 kJ_X12_believedAt_94 kJ_X12_believedAt_95
    simp only [fz_lt, pd z g, k3, e8, B108]
    by_cases q : u (N 5) i.toNat = -100
    · have e := hpl q
      simp only [if_pos q, if_true, e]
      by_cases q2 : u (N 8) i.toNat = -2
      · simp only [if_pos q2]
      · simp only [if_neg q2, show (0 : Int) / 2 = 0 from rfl]
        rw [zo_v0 po 0 1]
    · simp only [if_neg q, if_neg zz_n10]
      by_cases q2 : u (N 8) i.toNat = -2
      · simp only [if_pos q2, if_true]
      · simp only [if_neg q2, if_neg zz_n10]
  have B43 : ∀ (po : Int) (z : fx_U), zv_fb bq bf v z → ∃ y : fx_U, kJ_X12_believedAt_43 a2 i b x po z = (zo_v po (if u (N 8) i.toNat = -2 then (if u (N 5) i.toNat = -100 then 0 else Al i) else (if u (N 5) i.toNat = -100 then 0 else Al i) / 2) (if u (N 8) i.toNat = -2 then 0 else 1), y) ∧ zv_fb bq bf v y := by
    intro po z g
    unfold kJ_X12_believedAt_43
    simp only [fz_lt, pd z g]
    by_cases q : u (N 5) i.toNat = -100
    · simp only [if_pos q, if_true]
      exact ⟨z, B65 po 0 z g (fun _ => rfl), g⟩
    · obtain ⟨-, y, g1, g2⟩ := hr z g i i0 i1
      simp only [if_neg q, if_neg zz_n10, g1, fz_lc]
      exact ⟨y, B65 po (Al i) y (zo_b.tr g g2) (fun h => absurd h q), zo_b.tr g g2⟩
  obtain ⟨⟨hP, h0, -, -⟩, -, kb⟩ := zo_st H0 (zo_f.rf) g
  have e4 : z b (192 + i.toNat) = u (N 4) i.toNat := (kb _).trans d1.symm
  unfold f_X12_believedAt kJ_X12_believedAt_23 kJ_X12_believedAt_24 zo_b
  simp only [fz_lr, fz_lt, h0, Int.toNat_natCast, k1, e4, if_true, if_neg zz_n10]
  by_cases q : u (N 4) i.toNat = -100
  · simp only [if_pos q]
    exact B43 0 z g
  · obtain ⟨⟨y, g1, g2⟩, -⟩ := hr z g i i0 i1
    simp only [if_neg q, g1, fz_lc]
    exact B43 (Ao i) y (zo_b.tr g g2)
/-- believed, whole -/
theorem zo_believed (H : zo_H N la bk lo a2 b bq bf Ao Al M x D u v) (h5 : u a1 5 = (N 0 : Int)) (h4 : u a1 4 = (la : Int)) : (f_X11_believed u a1 i x).1 = (f_X12_believed v a2 i x).1 := by
  have g1 := H.2.2.1.2.2.1.1.1.1
  have g2 := H.2.2.1.2.2.1.1.1.2
  have h0 := H.2.2.1.2.1
  have dA : f_X7_isDot u (N 0) i = if i < 0 then 0 else if i < D then 1 else 0 := by
    unfold f_X7_isDot
    simp only [fz_lt, g1]
  have dB : f_X12_isDot v a2 i = if i < 0 then 0 else if i < D then 1 else 0 := by
    unfold f_X12_isDot
    simp only [fz_lr, fz_lt, h0, Int.toNat_natCast, show Int.toNat 512 = 512 from rfl, g2]
  unfold f_X11_believed f_X12_believed
  simp only [fz_lr, fz_lt, h5, h4, Int.toNat_natCast, dA, dB]
  by_cases c1 : i < 0
  · simp only [if_pos c1, if_true]
  · by_cases c2 : i < D
    · simp only [if_neg c1, if_pos c2, if_neg zz_n10]
      obtain ⟨y1, e1, -⟩ := zo_bc H zo_f.rf (i := i) (by omega) c2
      obtain ⟨y2, e2, -⟩ := zo_br H zo_b.rf (i := i) (by omega) c2
      rw [e1, e2]
      simp only [fz_lc]
    · simp only [if_neg c1, if_neg c2, if_true]
/-- whether a dot is lost -/
def zo_l (N : Nat → Nat) (Ao Al : Int → Int) (e : Int) (u : fx_U) (i : Int) : Int := if zo_b N Ao Al u i = 1 then (if e < f_X12_size u (fx_b_sub (u (N 4) i.toNat) (if u (N 5) i.toNat = -100 then u (N 1) i.toNat else u (N 5) i.toNat)) then 1 else 0) else 0
theorem zo_l01 {e : Int} : zo_l N Ao Al e u i = 0 ∨ zo_l N Ao Al e u i = 1 := by
  unfold zo_l
  by_cases c : zo_b N Ao Al u i = 1
  · rw [if_pos c]
    by_cases d : e < f_X12_size u (fx_b_sub (u (N 4) i.toNat) (if u (N 5) i.toNat = -100 then u (N 1) i.toNat else u (N 5) i.toNat))
    · rw [if_pos d]
      exact Or.inr rfl
    · rw [if_neg d]
      exact Or.inl rfl
  · rw [if_neg c]
    exact Or.inl rfl
/-- the reference: is it lost -/
theorem zo_lr {e : Int} (H : zo_H N la bk lo a2 b bq bf Ao Al M x D u v) (g : zv_fb bq bf v z) (i0 : 0 ≤ i) (i1 : i < D) : ∃ y : fx_U, f_X12_isLost z a2 i e x = (zo_l N Ao Al e u i, y) ∧ zv_fb bq bf v y := by
  obtain ⟨y, e1, g1⟩ := zo_br H g i0 i1
  have hD := H.2.2.2.2.1
  obtain ⟨⟨hP, h0, hR, -⟩, -, kb⟩ := zo_st H (zo_f.rf) g1
  have hR0 := H.2.2.1.2.2.1
  obtain ⟨d1, d2, d3⟩ := hR0.2.1 i.toNat (by omega)
  have hrow := H.2.2.2.1 i.toNat (by omega)
  have k1 : (192 + i).toNat = 192 + i.toNat := by omega
  have k2 : (256 + i).toNat = 256 + i.toNat := by omega
  have e4 : y b (192 + i.toNat) = u (N 4) i.toNat := (kb _).trans d1.symm
  have er : y b i.toNat = u (N 1) i.toNat := (kb _).trans hrow.symm
  have pd := (zn_pd hP h0 (hR.2.1 i.toNat (by omega)) i0).2
  have sz : ∀ a : Int, f_X12_size y a = f_X12_size u a := fun _ => rfl
  refine ⟨y, ?_, g1⟩
  unfold f_X12_isLost kJ_X12_isLost_50 zo_l
  simp only [e1, fz_lc, fz_lr, fz_lt, h0, Int.toNat_natCast, k1, k2, e4, pd, Int.zero_add, er, sz]
  by_cases c : zo_b N Ao Al u i = 1
  · simp only [if_pos c]
    by_cases q : u (N 5) i.toNat = -100
    · simp only [if_pos q, if_true]
      by_cases d : e < f_X12_size u (fx_b_sub (u (N 4) i.toNat) (u (N 1) i.toNat))
      · simp only [if_pos d]
      · simp only [if_neg d]
    · have e5 : y b (256 + i.toNat) = u (N 5) i.toNat := by
        rcases d3 with ⟨t, -⟩ | ⟨-, -, t, -⟩
        · exact absurd t q
        · exact (kb _).trans t.symm
      simp only [if_neg q, if_neg zz_n10, e5]
      by_cases d : e < f_X12_size u (fx_b_sub (u (N 4) i.toNat) (u (N 5) i.toNat))
      · simp only [if_pos d]
      · simp only [if_neg d]
  · simp only [if_neg c]
/-- how many of the first -/
def zo_s (g : Int → Int) : Nat → Int
  | 0 => 0
  | n + 1 => zo_s g n + g (n : Int)
theorem zo_sb {g : Int → Int} (h : ∀ i : Int, g i = 0 ∨ g i = 1) : ∀ n : Nat, 0 ≤ zo_s g n ∧ zo_s g n ≤ (n : Int) := by
  intro n
  induction n with
  | zero => exact ⟨Int.le_refl _, Int.le_refl _⟩
  | succ n ih =>
    unfold zo_s
    have := h (n : Int)
    omega
/-- the class's loop -/
theorem zo_fl {e : Int} {dr : Nat} (H : zo_H N la bk lo a2 b bq bf Ao Al M x D u v) (hd : u dr 0 = (lo : Int)) (nd : dr ≠ la ∧ dr ≠ bk ∧ dr ≠ lo) : ∀ (f : Nat) (n i : Int) (w : fx_U), D - i < (f : Int) → 0 < f → 0 ≤ i → i ≤ D → (0 ≤ n ∧ n ≤ i) → n = zo_s (zo_l N Ao Al e u) i.toNat → zo_f la bk lo u w → (∀ j : Nat, (j : Int) < i → w lo j = zo_l N Ao Al e u (j : Int)) → ∃ y : fx_U, kL_X0_findLost_6 (N 0) dr la x e f n i w = (zo_s (zo_l N Ao Al e u) D.toNat, y) ∧ zo_f la bk lo u y ∧ ∀ j : Nat, (j : Int) < D → y lo j = zo_l N Ao Al e u (j : Int) := by
  have hD := H.2.2.2.2.1
  intro f
  induction f with
  | zero => intro n i w _ h; omega
  | succ f ih =>
    intro n i w h1 _ i0 i2 hn hs fw hw
    obtain ⟨⟨hP, h0, hR, -⟩, kw, -⟩ := zo_st H fw zo_b.rf
    have g1 : w (N 0) 0 = D := hR.1.1.1
    have p1 := hP 1 (by decide) (by decide)
    have p5 := hP 5 (by decide) (by decide)
    have dr0 : w dr 0 = (lo : Int) := (fw.1 dr nd.1 nd.2.1 nd.2.2 0).trans hd
    show ∃ y : fx_U, kB_X0_findLost_6 (kL_X0_findLost_6 (N 0) dr la x e f) (N 0) dr la x e n i w = _ ∧ _
    unfold kB_X0_findLost_6
    simp only [fz_lt, fz_lr, g1, p1, p5, Int.toNat_natCast]
    by_cases c : i < D
    · have pd := (zn_pd hP h0 (hR.2.1 i.toNat (by omega)) i0).1
      rw [kw 5 (by decide)] at pd
      have due : (if f_X7_isPainted w (N 0) i = 0 then kJ_X0_findLost_41 w dr (N 0) la i x e n (kL_X0_findLost_6 (N 0) dr la x e f) (w (N 1) i.toNat) else kJ_X0_findLost_41 w dr (N 0) la i x e n (kL_X0_findLost_6 (N 0) dr la x e f) (w (N 5) i.toNat)) = kJ_X0_findLost_41 w dr (N 0) la i x e n (kL_X0_findLost_6 (N 0) dr la x e f) (if u (N 5) i.toNat = -100 then u (N 1) i.toNat else u (N 5) i.toNat) := by
        rw [pd, kw 1 (by decide), kw 5 (by decide)]
        by_cases q : u (N 5) i.toNat = -100
        · rw [if_pos q, if_pos q, if_pos rfl]
        · rw [if_neg q, if_neg q, if_neg zz_n10]
      rw [if_pos c, due]
      obtain ⟨y, b1, fy0⟩ := zo_bc H fw i0 c
      have fy : zo_f la bk lo u y := fw.tr (zo_f.fa fy0)
      obtain ⟨⟨hPy, -, -, -⟩, ky, -⟩ := zo_st H fy zo_b.rf
      have p4 := hPy 4 (by decide) (by decide)
      have sz : ∀ a : Int, f_J9_abs_0f7a4 y a = f_X12_size u a := fun _ => rfl
      obtain ⟨m, hm⟩ : ∃ m : Int, m = zo_l N Ao Al e u i := ⟨_, rfl⟩
      have m01 : m = 0 ∨ m = 1 := by
        rw [hm]
        exact zo_l01
      have stp : kJ_X0_findLost_41 w dr (N 0) la i x e n (kL_X0_findLost_6 (N 0) dr la x e f) (if u (N 5) i.toNat = -100 then u (N 1) i.toNat else u (N 5) i.toNat) = kL_X0_findLost_6 (N 0) dr la x e f (n + m) (i + 1) (fx_pt y lo i.toNat m) := by
        have s0 : fx_b_add n 0 = n + 0 := zz_wadd (zz_sml ⟨by omega, by omega⟩) (zz_sml ⟨by decide, by decide⟩) (zz_sml ⟨by omega, by omega⟩)
        have s1 : fx_b_add n 1 = n + 1 := zz_wadd (zz_sml ⟨by omega, by omega⟩) (zz_sml ⟨by decide, by decide⟩) (zz_sml ⟨by omega, by omega⟩)
        unfold kJ_X0_findLost_41 kJ_X0_findLost_83 kJ_X0_findLost_84 kJ_X0_findLost_102
        simp only [fz_lr, fz_lt, fz_ls, fz_lc, dr0, Int.toNat_natCast, b1, p4, ky 4 (by decide), sz, s0, s1]
        rw [hm]
        unfold zo_l
        by_cases q : zo_b N Ao Al u i = 1
        · simp only [if_pos q]
          by_cases d : e < f_X12_size u (fx_b_sub (u (N 4) i.toNat) (if u (N 5) i.toNat = -100 then u (N 1) i.toNat else u (N 5) i.toNat))
          · simp only [if_pos d, if_neg zz_n10]
          · simp only [if_neg d, if_true]
        · simp only [if_neg q, if_true]
      rw [stp]
      have fz : zo_f la bk lo u (fx_pt y lo i.toNat m) := fy.tr (zo_f.pt H.1.2.1)
      have e1 : (i + 1).toNat = i.toNat + 1 := by omega
      have e2 : (i.toNat : Int) = i := by omega
      refine ih (n + m) (i + 1) _ (by omega) (by omega) (by omega) (by omega) ⟨by omega, by omega⟩ ?_ fz (fun j hj => ?_)
      · rw [e1]
        show n + m = zo_s _ i.toNat + zo_l N Ao Al e u (i.toNat : Int)
        rw [e2, ← hs, hm]
      · by_cases t : j = i.toNat
        · rw [t, zz_ps, e2, hm]
        · rw [zz_pj t]
          rw [fy0.1 lo H.1.2.1 H.1.2.2]
          exact hw j (by omega)
    · have e : i = D := by omega
      rw [if_neg c, ← e]
      exact ⟨w, by rw [hs], fw, fun j hj => hw j hj⟩
/-- the reference's loop: all but some -/
theorem zo_lb {e x1 x2 : Int} (H : zo_H N la bk lo a2 b bq bf Ao Al M x D u v) : ∀ (f : Nat) (n i : Int) (z : fx_U), D - i < (f : Int) → 0 < f → 0 ≤ i → i ≤ D → (0 ≤ n ∧ n ≤ i) → n = zo_s (fun j => if x1 ≤ j ∧ j ≤ x2 then 0 else zo_l N Ao Al e u j) i.toNat → zv_fb bq bf v z → ∃ y : fx_U, kL_X12_lostBut_6 a2 x1 x2 e x f n i z = (zo_s (fun j => if x1 ≤ j ∧ j ≤ x2 then 0 else zo_l N Ao Al e u j) D.toNat, y) ∧ zv_fb bq bf v y := by
  have hD := H.2.2.2.2.1
  intro f
  induction f with
  | zero => intro n i z _ h; omega
  | succ f ih =>
    intro n i z h1 _ i0 i2 hn hs fz
    obtain ⟨⟨hP, h0, hR, -⟩, -, -⟩ := zo_st H (zo_f.rf) fz
    have g2 : z b 512 = D := hR.1.1.2
    have s0 : fx_b_add n 0 = n + 0 := zz_wadd (zz_sml ⟨by omega, by omega⟩) (zz_sml ⟨by decide, by decide⟩) (zz_sml ⟨by omega, by omega⟩)
    have s1 : fx_b_add n 1 = n + 1 := zz_wadd (zz_sml ⟨by omega, by omega⟩) (zz_sml ⟨by decide, by decide⟩) (zz_sml ⟨by omega, by omega⟩)
    have e1 : (i + 1).toNat = i.toNat + 1 := by omega
    have e2 : (i.toNat : Int) = i := by omega
    have nxt : ∀ m : Int, m = (if x1 ≤ i ∧ i ≤ x2 then 0 else zo_l N Ao Al e u i) → n + m = zo_s (fun j => if x1 ≤ j ∧ j ≤ x2 then 0 else zo_l N Ao Al e u j) (i + 1).toNat := fun m hm => by
      rw [e1]
      show n + m = zo_s (fun j => if x1 ≤ j ∧ j ≤ x2 then 0 else zo_l N Ao Al e u j) i.toNat + (if x1 ≤ (i.toNat : Int) ∧ (i.toNat : Int) ≤ x2 then 0 else zo_l N Ao Al e u (i.toNat : Int))
      rw [e2, ← hs, hm]
    show ∃ y : fx_U, kB_X12_lostBut_6 (kL_X12_lostBut_6 a2 x1 x2 e x f) a2 x1 x2 e x n i z = _ ∧ _
    unfold kB_X12_lostBut_6 kJ_X12_lostBut_47 kJ_X12_lostBut_48
    simp only [fz_lt, fz_lr, h0, Int.toNat_natCast, show Int.toNat 512 = 512 from rfl, g2, zz_is2, s0, s1]
    by_cases c : i < D
    · by_cases q : x1 ≤ i ∧ i ≤ x2
      · simp only [if_pos c, if_pos q, if_neg zz_n10]
        exact ih (n + 0) (i + 1) z (by omega) (by omega) (by omega) (by omega) ⟨by omega, by omega⟩ (nxt 0 (by rw [if_pos q])) fz
      · obtain ⟨y, l1, l2⟩ := zo_lr (e := e) H fz i0 c
        simp only [if_pos c, if_neg q, if_true, l1, fz_lc]
        rcases (zo_l01 : zo_l N Ao Al e u i = 0 ∨ zo_l N Ao Al e u i = 1) with t | t
        · rw [if_pos t]
          exact ih (n + 0) (i + 1) y (by omega) (by omega) (by omega) (by omega) ⟨by omega, by omega⟩ (nxt 0 (by rw [if_neg q, t])) l2
        · rw [if_neg (by omega)]
          exact ih (n + 1) (i + 1) y (by omega) (by omega) (by omega) (by omega) ⟨by omega, by omega⟩ (nxt 1 (by rw [if_neg q, t])) l2
    · have e : i = D := by omega
      rw [if_neg c, ← e]
      exact ⟨z, by rw [hs], fz⟩
/-- but for a stretch -/
theorem zo_sx {g : Int → Int} {p q : Nat} (hpq : p ≤ q) : ∀ n : Nat, zo_s (fun j => if (p : Int) ≤ j ∧ j ≤ (q : Int) - 1 then 0 else g j) n = if n ≤ p then zo_s g n else if n ≤ q then zo_s g p else zo_s g n - (zo_s g q - zo_s g p) := by
  intro n
  induction n with
  | zero =>
    rw [if_pos (Nat.zero_le _)]
    rfl
  | succ n ih =>
    show zo_s (fun j => if (p : Int) ≤ j ∧ j ≤ (q : Int) - 1 then 0 else g j) n + (if (p : Int) ≤ (n : Int) ∧ (n : Int) ≤ (q : Int) - 1 then 0 else g (n : Int)) = _
    rw [ih]
    have ex : zo_s g (n + 1) = zo_s g n + g (n : Int) := rfl
    by_cases c1 : n + 1 ≤ p
    · rw [if_pos (show n ≤ p by omega), if_neg (by omega), if_pos c1, ex]
    · by_cases c2 : n + 1 ≤ q
      · rw [if_neg c1, if_pos c2, if_pos (show (p : Int) ≤ (n : Int) ∧ (n : Int) ≤ (q : Int) - 1 by omega), Int.add_zero]
        by_cases c3 : n ≤ p
        · rw [if_pos c3, show n = p by omega]
        · rw [if_neg c3, if_pos (show n ≤ q by omega)]
      · rw [if_neg c1, if_neg c2, if_neg (show ¬ ((p : Int) ≤ (n : Int) ∧ (n : Int) ≤ (q : Int) - 1) by omega), ex]
        by_cases c3 : n ≤ p
        · have a : n = p := by omega
          have d : q = p := by omega
          rw [if_pos c3, a, d]
          omega
        · rw [if_neg c3]
          by_cases c4 : n ≤ q
          · have a : n = q := by omega
            rw [if_pos c4, a]
            omega
          · rw [if_neg c4]
            omega
theorem zo_sn {g : Int → Int} : ∀ n : Nat, zo_s (fun j => if (0 : Int) ≤ j ∧ j ≤ -1 then 0 else g j) n = zo_s g n := by
  intro n
  induction n with
  | zero => rfl
  | succ n ih =>
    show zo_s (fun j => if (0 : Int) ≤ j ∧ j ≤ -1 then 0 else g j) n + (if (0 : Int) ≤ (n : Int) ∧ (n : Int) ≤ -1 then 0 else g (n : Int)) = _
    rw [ih, if_neg (by omega)]
    rfl
/-- lost, whole -/
theorem zo_lost {dr : Nat} (H : zo_H N la bk lo a2 b bq bf Ao Al M x D u v) (h5 : u a1 5 = (N 0 : Int)) (h4 : u a1 4 = (la : Int)) (h11 : u a1 11 = (dr : Int)) (hd : u dr 0 = (lo : Int)) (nd : dr ≠ la ∧ dr ≠ bk ∧ dr ≠ lo) : (f_X11_lost u a1 i x).1 = (f_X12_lost v a2 i x).1 := by
  have hD := H.2.2.2.2.1
  unfold f_X11_lost f_X12_lost
  simp only [fz_lt, fz_lr, zz_is, zz_is2, h5, h4, h11, Int.toNat_natCast]
  by_cases c : 0 ≤ i ∧ i ≤ 99
  · simp only [if_pos c, if_neg zz_n10]
    obtain ⟨y, e1, -, -⟩ := zo_fl (e := i) H hd nd 65 0 0 u (by omega) (by decide) (by decide) (by omega) ⟨by decide, by decide⟩ rfl zo_f.rf (fun j hj => by omega)
    obtain ⟨y2, e2, -⟩ := zo_lb (e := i) (x1 := 0) (x2 := -1) H 65 0 0 v (by omega) (by decide) (by decide) (by omega) ⟨by decide, by decide⟩ rfl zo_b.rf
    have a1 : f_X0_findLost u dr (N 0) la i x = (zo_s (zo_l N Ao Al i u) D.toNat, y) := by
      unfold f_X0_findLost
      rw [show Int.toNat (64 - 0) + 1 = 65 from rfl]
      exact e1
    have a2' : f_X12_lostBut v a2 0 (-1) i x = (zo_s (zo_l N Ao Al i u) D.toNat, y2) := by
      unfold f_X12_lostBut
      rw [show Int.toNat (64 - 0) + 1 = 65 from rfl, e2, zo_sn]
    rw [a1, a2']
    simp only [fz_lc]
  · simp only [if_neg c, if_true]
/-- the class: lost in a stretch -/
theorem zo_li {g : Int → Int} (hg : ∀ i : Int, g i = 0 ∨ g i = 1) {w : fx_U} {dr : Nat} {p l : Int} (hw : ∀ j : Nat, (j : Int) < D → w lo j = g (j : Int)) (hd : w dr 0 = (lo : Int)) (hp : 0 ≤ p ∧ 1 ≤ l ∧ p + l ≤ D) (hD : D ≤ 64) : f_X0_lostIn w dr p l = zo_s g (p + l).toNat - zo_s g p.toNat := by
  have key : ∀ (f : Nat) (n i : Int), 64 - i < (f : Int) → 0 < f → p ≤ i → i ≤ p + l → (0 ≤ n ∧ n ≤ i) → n = zo_s g i.toNat - zo_s g p.toNat → kL_X0_lostIn_5 p l w dr f n i = zo_s g (p + l).toNat - zo_s g p.toNat := by
    intro f
    induction f with
    | zero => intro n i _ h; omega
    | succ f ih =>
      intro n i h1 _ i0 i1 hn hs
      have s0 : fx_b_add n 0 = n + 0 := zz_wadd (zz_sml ⟨by omega, by omega⟩) (zz_sml ⟨by decide, by decide⟩) (zz_sml ⟨by omega, by omega⟩)
      have s1 : fx_b_add n 1 = n + 1 := zz_wadd (zz_sml ⟨by omega, by omega⟩) (zz_sml ⟨by decide, by decide⟩) (zz_sml ⟨by omega, by omega⟩)
      have e1 : (i + 1).toNat = i.toNat + 1 := by omega
      have e2 : (i.toNat : Int) = i := by omega
      have ex : zo_s g (i + 1).toNat = zo_s g i.toNat + g i := by
        rw [e1]
        show zo_s g i.toNat + g (i.toNat : Int) = _
        rw [e2]
      show kB_X0_lostIn_5 (kL_X0_lostIn_5 p l w dr f) p l w dr n i = _
      unfold kB_X0_lostIn_5 kJ_X0_lostIn_36
      simp only [fz_lt, fz_lr, hd, Int.toNat_natCast, s0, s1]
      by_cases c : i < p + l
      · have v := hw i.toNat (by omega)
        rw [e2] at v
        simp only [if_pos c, if_pos (show i < 64 by omega), v]
        rcases hg i with t | t
        · rw [if_pos t]
          exact ih (n + 0) (i + 1) (by omega) (by omega) (by omega) (by omega) ⟨by omega, by omega⟩ (by rw [ex, t]; omega)
        · rw [if_neg (show ¬ g i = 0 by omega)]
          exact ih (n + 1) (i + 1) (by omega) (by omega) (by omega) (by omega) ⟨by omega, by omega⟩ (by rw [ex, t]; omega)
      · rw [if_neg c, hs, show i = p + l by omega]
  unfold f_X0_lostIn
  exact key _ 0 p (by omega) (by omega) (Int.le_refl _) (by omega) ⟨by decide, by omega⟩ (by omega)
/-- burnt first, whole -/
theorem zo_burn {dr : Nat} {x1 x2 x4 : Int} (H : zo_H N la bk lo a2 b bq bf Ao Al M x D u v) (h5 : u a1 5 = (N 0 : Int)) (h4 : u a1 4 = (la : Int)) (h11 : u a1 11 = (dr : Int)) (hd : u dr 0 = (lo : Int)) (nd : dr ≠ la ∧ dr ≠ bk ∧ dr ≠ lo) : (f_X11_burnFirst u a1 x1 x2 x x4).1 = (f_X12_burnFirst v a2 x1 x2 x x4).1 := by
  have hD := H.2.2.2.2.1
  have g1 : u (N 0) 0 = D := H.2.2.1.2.2.1.1.1.1
  have g2 : v b 512 = D := H.2.2.1.2.2.1.1.1.2
  have h0 : v a2 0 = (b : Int) := H.2.2.1.2.1
  unfold f_X11_burnFirst f_X12_burnFirst
  simp only [fz_lt, fz_lr, zz_is, zz_is2, h5, h4, h11, h0, Int.toNat_natCast, show Int.toNat 512 = 512 from rfl, g1, g2]
  by_cases c1 : 1 ≤ x1 ∧ x1 ≤ D
  · by_cases c2 : 0 ≤ x2 ∧ x2 ≤ 99
    · by_cases c3 : 0 ≤ x4 ∧ x4 ≤ 1
      · simp only [if_pos c1, if_pos c2, if_pos c3, if_neg zz_n10]
        obtain ⟨y, e1, fy, ly⟩ := zo_fl (e := x2) H hd nd 65 0 0 u (by omega) (by decide) (by decide) (by omega) ⟨by decide, by decide⟩ rfl zo_f.rf (fun j hj => by omega)
        have a1 : f_X0_findLost u dr (N 0) la x2 x = (zo_s (zo_l N Ao Al x2 u) D.toNat, y) := by
          unfold f_X0_findLost
          rw [show Int.toNat (64 - 0) + 1 = 65 from rfl]
          exact e1
        obtain ⟨g, hg⟩ : ∃ g : Int → Int, g = zo_l N Ao Al x2 u := ⟨_, rfl⟩
        rw [← hg] at a1 ly
        have g01 : ∀ i : Int, g i = 0 ∨ g i = 1 := fun i => by
          rw [hg]
          exact zo_l01
        have dy : y dr 0 = (lo : Int) := (fy.1 dr nd.1 nd.2.1 nd.2.2 0).trans hd
        obtain ⟨A, hA⟩ : ∃ A : Int, A = zo_s g D.toNat := ⟨_, rfl⟩
        have sb := zo_sb g01
        have ab : 0 ≤ A ∧ A ≤ 64 := by
          have := sb D.toNat
          omega
        obtain ⟨L, hL⟩ : ∃ L : Int → Int, L = fun p => zo_s g (p + x1).toNat - zo_s g p.toNat := ⟨_, rfl⟩
        have li : ∀ p : Int, 0 ≤ p → p + x1 ≤ D → f_X0_lostIn y dr p x1 = L p := fun p p0 p1 => by
          rw [hL]
          exact zo_li g01 ly dy ⟨p0, c1.1, p1⟩ hD.2
        have lr : ∀ (p : Int) (z : fx_U), 0 ≤ p → p + x1 ≤ D → zv_fb bq bf v z → ∃ y2 : fx_U, f_X12_lostBut z a2 p (p + x1 - 1) x2 x = (A - L p, y2) ∧ zv_fb bq bf v y2 := fun p z p0 p1 fz => by
          obtain ⟨y2, t1, t2⟩ := zo_lb (e := x2) (x1 := p) (x2 := p + x1 - 1) H 65 0 0 z (by omega) (by decide) (by decide) (by omega) ⟨by decide, by decide⟩ rfl fz
          refine ⟨y2, ?_, t2⟩
          unfold f_X12_lostBut
          rw [show Int.toNat (64 - 0) + 1 = 65 from rfl, t1, ← hg]
          have q := zo_sx (g := g) (p := p.toNat) (q := (p + x1).toNat) (by omega) D.toNat
          have w1 : ((p.toNat : Nat) : Int) = p := by omega
          have w2 : (((p + x1).toNat : Nat) : Int) = p + x1 := by omega
          rw [w1, w2] at q
          rw [q, if_neg (by omega), hL, hA]
          by_cases k : D.toNat ≤ (p + x1).toNat
          · rw [if_pos k]
            show (zo_s g p.toNat, y2) = (zo_s g D.toNat - (zo_s g (p + x1).toNat - zo_s g p.toNat), y2)
            rw [show (p + x1).toNat = D.toNat by omega]
            exact congrArg (fun t => (t, y2)) (by omega)
          · rw [if_neg k]
        have Lb : ∀ p : Int, 0 ≤ p → p + x1 ≤ D → -64 ≤ L p ∧ L p ≤ 64 := fun p p0 p1 => by
          rw [hL]
          have s1 := sb (p + x1).toNat
          have s2 := sb p.toNat
          show -64 ≤ zo_s g (p + x1).toNat - zo_s g p.toNat ∧ zo_s g (p + x1).toNat - zo_s g p.toNat ≤ 64
          omega
        rw [a1, ← hA]
        simp only [fz_lc]
        have loop : ∀ (f : Nat) (k m : Int) (z : fx_U), 64 - k < (f : Int) → 0 < f → 1 ≤ k → (0 ≤ m ∧ m + x1 ≤ D) → zv_fb bq bf v z → (kL_X11_burnFirst_62 x1 D x4 y dr A f m k).1 = (kL_X12_burnFirst_49 x1 D x4 a2 x2 x f m (A - L m) k z).1 := by
          intro f
          induction f with
          | zero => intro k m z _ h; omega
          | succ f ih =>
            intro k m z h1 _ k1 hm fz
            show (kB_X11_burnFirst_62 (kL_X11_burnFirst_62 x1 D x4 y dr A f) x1 D x4 y dr A m k).1 = (kB_X12_burnFirst_49 (kL_X12_burnFirst_49 x1 D x4 a2 x2 x f) x1 D x4 a2 x2 x m (A - L m) k z).1
            unfold kB_X11_burnFirst_62 kB_X12_burnFirst_49 kJ_X11_burnFirst_103 kJ_X12_burnFirst_98
            simp only [fz_lt]
            by_cases d : D < k + x1
            · rw [if_pos d, if_pos d]
              by_cases t : x4 = 0
              · rw [if_pos t, if_pos t]
              · have b1 := Lb m hm.1 hm.2
                have sA : fx_b_sub A (L m) = A - L m := zz_wsub (zz_sml ⟨by omega, by omega⟩) (zz_sml ⟨by omega, by omega⟩) (zz_sml ⟨by omega, by omega⟩)
                rw [if_neg t, if_neg t, li m hm.1 hm.2, sA]
            · obtain ⟨y2, r1, r2⟩ := lr k z (by omega) (by omega) fz
              rw [if_neg d, if_neg d, li m hm.1 hm.2, li k (by omega) (by omega), r1]
              simp only [fz_lc]
              by_cases t : L m < L k
              · rw [if_pos t, if_pos (show A - L k < A - L m by omega)]
                exact ih (k + 1) k y2 (by omega) (by omega) (by omega) ⟨by omega, by omega⟩ r2
              · rw [if_neg t, if_neg (show ¬ A - L k < A - L m by omega)]
                exact ih (k + 1) m y2 (by omega) (by omega) (by omega) hm r2
        obtain ⟨y0, r1, r2⟩ := lr 0 v (by decide) (by omega) zo_b.rf
        have b0 := Lb 0 (by decide) (by omega)
        have first : kL_X12_burnFirst_49 x1 D x4 a2 x2 x (Int.toNat (64 - 0) + 1) 0 1000000000 0 v = kL_X12_burnFirst_49 x1 D x4 a2 x2 x 64 0 (A - L 0) 1 y0 := by
          rw [show Int.toNat (64 - 0) + 1 = 64 + 1 from rfl]
          show kB_X12_burnFirst_49 (kL_X12_burnFirst_49 x1 D x4 a2 x2 x 64) x1 D x4 a2 x2 x 0 1000000000 0 v = _
          unfold kB_X12_burnFirst_49 kJ_X12_burnFirst_98
          simp only [fz_lt]
          rw [if_neg (by omega), r1]
          simp only [fz_lc]
          rw [if_pos (by omega)]
          rfl
        rw [first, show Int.toNat (64 - 1) + 1 = 64 from rfl]
        exact loop 64 1 0 y0 (by decide) (by decide) (by decide) ⟨by decide, by omega⟩ r2
      · simp only [if_pos c1, if_pos c2, if_neg c3, if_neg zz_n10, if_true]
    · simp only [if_pos c1, if_neg c2, if_neg zz_n10, if_true]
  · simp only [if_neg c1, if_true]
end Lost
/-! the law is asked the same all along -/
section Asked
variable {N : Nat → Nat} {la bk lo sg vl l5 l6 l7 c0 c1 c2 a2 b bq bc bf bcl bcf bch bct : Nat} {D M x : Int} {R : zl_L} {u v w z : fx_U}
theorem zo_base (ha : zv_ap la bk sg vl l5 l6 l7 (N 0) c0 c1 c2) (hq : zv_aq a2 b bq bc bf bcl bcf bch bct) (hc : zv_hc la bk sg vl l5 l6 l7 (N 0) c0 c1 c2 D R u) (hr : zv_hr a2 b bq bc bf bcl bcf bch bct D R v) (hE : zv_LE R) (hR : R.length ≤ 16) (hD : D ≤ 64) (hrow : ∀ k : Nat, k < 64 → v b k = u c0 k ∧ v b (64 + k) = u c1 k ∧ v b (128 + k) = u c2 k) (nK : ∀ d : Nat, (d = sg ∨ d = vl ∨ d = l5 ∨ d = l6 ∨ d = l7 ∨ d = c0 ∨ d = c1 ∨ d = c2 ∨ d = N 0) → d ≠ la ∧ d ≠ bk ∧ d ≠ lo) (hx : x = 0 ∨ x = 1) (vM : v b 513 = M) : zo_c N la bk lo (fun i => (f_X12_byLaw (f_X12_feels v a2 i M 0 x) a2 111 0 99).1) (fun i => (f_X12_byLaw (f_X12_feels v a2 i M 0 x) a2 108 0 99).1) M x D u ∧ zo_r a2 bq bf (fun i => (f_X12_byLaw (f_X12_feels v a2 i M 0 x) a2 111 0 99).1) (fun i => (f_X12_byLaw (f_X12_feels v a2 i M 0 x) a2 108 0 99).1) x D v := by
  have hq0 := hq
  obtain ⟨-, ⟨m1, m2⟩, ⟨m3, m4⟩, ⟨m5, m6⟩, ⟨m7, m8⟩, ⟨m9, m10⟩, ⟨m11, m12⟩, m13, m14⟩ := hq
  have cb : ∀ w : fx_U, zo_f la bk lo u w → ∀ d : Nat, (d = sg ∨ d = vl ∨ d = l5 ∨ d = l6 ∨ d = l7 ∨ d = c0 ∨ d = c1 ∨ d = c2 ∨ d = N 0) → ∀ i : Nat, w d i = u d i := fun w hw d hd i => by
    obtain ⟨n0, n1, n2⟩ := nK d hd
    exact hw.1 d n0 n1 n2 i
  have key : ∀ w z : fx_U, zo_f la bk lo u w → zv_fb bq bf v z → ∀ i L : Int, 0 ≤ i → i < D → (L = 111 ∨ L = 108) → (f_X3_ask w la L (N 0) i M 0 x).1 = (f_X12_byLaw (f_X12_feels z a2 i M 0 x) a2 L 0 99).1 ∧ zv_fa la bk w (f_X3_ask w la L (N 0) i M 0 x).2 ∧ zv_fb bq bf z (f_X12_byLaw (f_X12_feels z a2 i M 0 x) a2 L 0 99).2 := by
    intro w z hw hz i L i0 i1 hL
    have hc2 : zv_hc la bk sg vl l5 l6 l7 (N 0) c0 c1 c2 D R w := hc.mv3 hw.2 (fun d hd i => cb w hw d (by omega) i) (fun j _ => cb w hw (N 0) (by omega) j)
    have hr2 : zv_hr a2 b bq bc bf bcl bcf bch bct D R z := hr.mv hq0 hz
    have h1 : (0 : Int) = if L = 112 then 1 else 0 := by
      rcases hL with rfl | rfl <;> rfl
    have h2 : (99 : Int) = if L = 112 then 9 else if L = 115 then 63 else 99 := by
      rcases hL with rfl | rfl <;> rfl
    refine zv_askW ha hq0 hc2 hr2 hE hR hD ⟨i0, i1⟩ hx (fun k hk => ?_) h1 h2
    obtain ⟨g1, g2, g3⟩ := hrow k hk
    rw [hz b m3 m4 k, hz b m3 m4 (64 + k), hz b m3 m4 (128 + k), cb w hw c0 (by omega), cb w hw c1 (by omega), cb w hw c2 (by omega)]
    exact ⟨g1, g2, g3⟩
  have vE : ∀ z : fx_U, zv_fb bq bf v z → ∀ i L : Int, 0 ≤ i → i < D → (L = 111 ∨ L = 108) → ∃ y : fx_U, f_X12_plain z a2 i L x = ((f_X12_byLaw (f_X12_feels v a2 i M 0 x) a2 L 0 99).1, y) ∧ zv_fb bq bf z y := by
    intro z hz i L i0 i1 hL
    obtain ⟨k1, -, -⟩ := key u v zo_f.rf zo_b.rf i L i0 i1 hL
    obtain ⟨k3, -, k4⟩ := key u z zo_f.rf hz i L i0 i1 hL
    refine ⟨_, ?_, k4⟩
    have z0 : z a2 0 = (b : Int) := (hz a2 m1 m2 0).trans hr.2.1.1
    have z513 : z b 513 = M := (hz b m3 m4 513).trans vM
    unfold f_X12_plain
    simp only [fz_lr, fz_lt, fz_ls, fz_lc, z0, Int.toNat_natCast, show Int.toNat 513 = 513 from rfl, z513]
    exact Prod.ext (k3.symm.trans k1) rfl
  refine ⟨fun w hw i i0 i1 => ⟨?_, ?_⟩, fun z hz i i0 i1 => ⟨vE z hz i 111 i0 i1 (Or.inl rfl), vE z hz i 108 i0 i1 (Or.inr rfl)⟩⟩
  · obtain ⟨k1, k2, -⟩ := key w v hw zo_b.rf i 111 i0 i1 (Or.inl rfl)
    exact ⟨(f_X3_ask w la 111 (N 0) i M 0 x).2, Prod.ext k1 rfl, k2⟩
  · obtain ⟨k1, k2, -⟩ := key w v hw zo_b.rf i 108 i0 i1 (Or.inr rfl)
    exact ⟨(f_X3_ask w la 108 (N 0) i M 0 x).2, Prod.ext k1 rfl, k2⟩
end Asked
