/-! THE NIGHT: the line is checked against the tape -/
section Check
variable {N : Nat → Nat} {a1 a2 b ta tb : Nat} {D x t : Int} {u v : fx_U}
theorem zn_checkW (hP : zn_P N u) (h5 : u a1 5 = (N 0 : Int)) (h0 : v a2 0 = (b : Int)) (hR : zn_R N b D u v) (hD : D ≤ 64) (tp : zz_tp u v a1 a2 ta tb t) (hv : ∀ i : Nat, i < 260 → -128 ≤ v tb i ∧ v tb i ≤ 127) (ht : t ≤ 260) (n1 : ∀ j : Nat, j ≤ 14 → N j ≠ a1) (n2 : ta ≠ a1 ∧ tb ≠ a2 ∧ b ≠ a2) : (f_X11_check u a1 x).1 = (f_X12_check v a2 x).1 := by
  obtain ⟨⟨hu, hw⟩, ⟨hta, htb⟩, htc⟩ := tp
  have hR0 := hR
  obtain ⟨⟨⟨g1, g2⟩, -⟩, -⟩ := hR0
  have e : f_X11_isIn u x 0 D = f_X12_in v x 0 D := rfl
  obtain ⟨u1, hu1⟩ : ∃ q : fx_U, q = fx_pt u a1 1 0 := ⟨_, rfl⟩
  obtain ⟨v1, hv1⟩ : ∃ q : fx_U, q = fx_pt v a2 4 0 := ⟨_, rfl⟩
  have eA : f_X11_check u a1 x = if f_X12_in v x 0 D = 0 then (-2, u) else if t < x then (-2, u) else kL_X11_check_33 x u1 (N 0) a1 65 0 := by
    unfold f_X11_check
    simp only [fz_lr, fz_lt, fz_ls, hu, h5, Int.toNat_natCast, g1, e, ← hu1, show Int.toNat (64 - 0) + 1 = 65 from rfl]
  have eB : f_X12_check v a2 x = if f_X12_in v x 0 D = 0 then (-2, v) else if t < x then (-2, v) else kL_X12_check_34 x v1 a2 b 65 0 := by
    unfold f_X12_check
    simp only [fz_lr, fz_lt, fz_ls, hw, h0, Int.toNat_natCast, show Int.toNat 512 = 512 from rfl, g2, ← hv1, show Int.toNat (64 - 0) + 1 = 65 from rfl]
  rw [eA, eB]
  by_cases c1 : f_X12_in v x 0 D = 0
  · rw [if_pos c1, if_pos c1]
  · rw [if_neg c1, if_neg c1]
    by_cases c2 : t < x
    · rw [if_pos c2, if_pos c2]
    · rw [if_neg c2, if_neg c2]
      have hx : x ≤ D := by
        unfold f_X12_in at c1
        by_cases t1 : x < 0
        · omega
        · rw [if_neg t1] at c1
          by_cases t2 : D < x
          · rw [if_pos t2] at c1
            exact absurd rfl c1
          · omega
      have uN : ∀ k j : Nat, k ≤ 14 → u1 (N k) j = u (N k) j := fun k j hk => by
        rw [hu1]
        exact zz_pa (n1 k hk)
      have vb : ∀ j : Nat, v1 b j = v b j := fun j => by
        rw [hv1]
        exact zz_pa n2.2.2
      have P1 : zn_P N u1 := fun j h1 h2 => (uN 0 j (by decide)).trans (hP j h1 h2)
      have R1 : zn_R N b D u1 v1 := by
        obtain ⟨hG, hd, ⟨hA0, hA1⟩, hne, hC⟩ := hR
        refine ⟨zn_Gm hG (fun j => uN 0 j (by decide)) ⟨vb _, vb _, vb _, vb _⟩, fun j hj => zn_Dm (hd j hj) ⟨uN 4 j (by decide), uN 5 j (by decide), uN 6 j (by decide), uN 7 j (by decide), uN 8 j (by decide)⟩ ⟨vb _, vb _, vb _, vb _, vb _⟩, ⟨zn_Am hA0 ⟨uN 9 _ (by decide), uN 10 _ (by decide), uN 11 _ (by decide), uN 12 _ (by decide)⟩ (fun _ => uN 5 _ (by decide)) ⟨vb _, vb _, vb _, vb _⟩, zn_Am hA1 ⟨uN 9 _ (by decide), uN 10 _ (by decide), uN 11 _ (by decide), uN 12 _ (by decide)⟩ (fun _ => uN 5 _ (by decide)) ⟨vb _, vb _, vb _, vb _⟩⟩, ?_, fun c hc => zn_Cm (hC c hc) ⟨uN 13 c (by decide), uN 14 c (by decide)⟩ ⟨vb _, vb _, vb _⟩⟩
        rw [uN 10 0 (by decide), uN 10 1 (by decide)]
        exact hne
      have p5 := P1 5 (by decide) (by decide)
      have v10 : v1 a2 0 = (b : Int) := by
        rw [hv1]
        exact (zz_pj (by decide)).trans h0
      have v13 : v1 a2 3 = (tb : Int) := by
        rw [hv1]
        exact (zz_pj (by decide)).trans htb
      have u10 : u1 a1 0 = (ta : Int) := by
        rw [hu1]
        exact (zz_pj (by decide)).trans hta
      have key : ∀ (f : Nat) (i : Int), 0 ≤ i → (kL_X11_check_33 x u1 (N 0) a1 f i).1 = (kL_X12_check_34 x v1 a2 b f i).1 := by
        intro f
        induction f with
        | zero => intro i _; rfl
        | succ f ih =>
          intro i i0
          have k4 : (256 + i).toNat = 256 + i.toNat := by omega
          show (kB_X11_check_33 (kL_X11_check_33 x u1 (N 0) a1 f) x u1 (N 0) a1 i).1 = (kB_X12_check_34 (kL_X12_check_34 x v1 a2 b f) x v1 a2 b i).1
          unfold kB_X11_check_33 kB_X12_check_34 kJ_X11_check_65 kJ_X12_check_74
          simp only [fz_lr, fz_lt, p5, u10, v13, Int.toNat_natCast, k4]
          by_cases c : i < x
          · have d := R1.2.1 i.toNat (by omega)
            obtain ⟨q1, q2⟩ := zn_pd P1 v10 d i0
            have by1 : u1 ta i.toNat = fx_b_and (v1 tb i.toNat) 255 := by
              rw [hu1, hv1]
              have s1 : fx_pt u a1 1 0 ta i.toNat = u ta i.toNat := zz_pa n2.1
              have s2 : fx_pt v a2 4 0 tb i.toNat = v tb i.toNat := zz_pa n2.2.1
              rw [s1, s2, zz_and (hv i.toNat (by omega))]
              exact htc i.toNat (by omega)
            have nx := ih (i + 1) (by omega)
            simp only [if_pos c, q1, q2, by1]
            rcases d.2.2 with ⟨s1, -⟩ | ⟨s1, -, s2, -⟩
            · simp only [if_pos s1, if_true]
              by_cases r : fx_b_and (v1 tb i.toNat) 255 = 0
              · simp only [if_pos r]
                exact nx
              · simp only [if_neg r]
            · have n : ¬ u1 (N 5) i.toNat = -100 := by omega
              simp only [if_neg n, if_neg zz_n10]
              rw [s2]
              by_cases r : fx_b_and (v1 tb i.toNat) 255 = fx_b_add (v1 b (256 + i.toNat)) 100
              · rw [if_pos r, if_pos r]
                exact nx
              · rw [if_neg r, if_neg r]
          · rw [if_neg c, if_neg c]
      exact key 65 0 (by decide)
end Check
