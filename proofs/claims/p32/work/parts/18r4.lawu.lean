/-! THE LAW'S TEXT in the reference: factors, terms, sums -/
section LawU
variable {T : Nat → Int} {a2 tb bs bw : Nat} {n p o c op base : Int} {W : List (Int × Int)} {w v : fx_U}
/-- a factor that is no [ -/
theorem zl_rfo (ha : zl_aq a2 tb bs bw) (hn : n ≤ 240) {g : Int → zl_O} {room : Bool} (hD : zl_D T a2 tb bs bw n p op c W w) (h0 : 0 ≤ p) (h1 : p ≤ n) (hc : 0 ≤ c) (q : zz_pk T n p ≠ 91) :
    ((zl_fac T n g room p).1 ≠ 0 ∧ ∃ y : fx_U, f_X12_readsFactor w a2 = (0, y) ∧ y a2 7 = zz_ft (zl_fac T n g room p).1 (zl_fac T n g room p).2.1 ∧ p ≤ y a2 5 ∧ zl_eq a2 bs bw c w y) ∨ (∃ (y : fx_U) (it : Int × Int) (p2 : Int), zl_fac T n g room p = (0, p2, [it]) ∧ f_X12_readsFactor w a2 = (1, y) ∧ (p < p2 ∧ p2 ≤ n) ∧ zl_D T a2 tb bs bw n p2 op (c + 1) W y ∧ zl_ce bs y c [it] ∧ zl_eq a2 bs bw c w y) := by
  have eF : f_X12_readsFactor w a2 = kB_X12_readsFactor_0 (kL_X12_readsFactor_0 a2 (Int.toNat (260 - p))) a2 w c (W.length : Int) p := by
    unfold f_X12_readsFactor
    simp only [fz_lt, fz_lr, hD.2.1.1, hD.2.1.2.2.1, hD.2.1.2.2.2]
    rfl
  have fa : zl_fac T n g room p = if 48 ≤ zz_pk T n p ∧ zz_pk T n p ≤ 57 then zl_num T n 5 0 p else if zl_fo (zz_pk T n p) = -1 then (1, p, []) else (0, p + 1, [(105, zz_pk T n p)]) := by
    unfold zl_fac
    rw [if_neg q]
  rw [eF, fa]
  unfold kB_X12_readsFactor_0
  simp only [fz_lt, fz_ls, zl_hr hD h0, zl_dg hD h0, zl_fq]
  rw [if_neg q]
  by_cases g1 : 48 ≤ zz_pk T n p ∧ zz_pk T n p ≤ 57
  · simp only [if_pos g1, if_neg zz_n10]
    have k1 : zl_eq a2 bs bw c w (fx_pt w a2 8 0) := zl_eq.pt ha (by decide)
    have d1 := hD.mv ha k1 ((zz_pj (by decide)).trans hD.2.1.1) ((zz_pj (by decide)).trans hD.2.1.2.1) ((zz_pj (by decide)).trans hD.2.1.2.2.1) ((zz_pj (by decide)).trans hD.2.1.2.2.2) (zl_sk_keep W (fun i _ => zz_pa ha.2.2.2.1) hD.2.2.1)
    have eN : f_X12_readsNumber w a2 = kL_X12_readsNumber_10 a2 p (Int.toNat (260 - p) + 1) (fx_pt w a2 8 0) p 0 := by
      unfold f_X12_readsNumber
      simp only [fz_lt, fz_lr, fz_ls, hD.2.1.1]
    have ng := zl_num_g (T := T) (n := n) 5 0 p p (Int.le_refl p) h1 (Or.inr ⟨g1.1, g1.2, by first | decide | (dsimp only; decide) | (dsimp only)⟩)
    rcases zl_numR ha hn (fr := p) 5 (Int.toNat (260 - p) + 1) 0 p (fx_pt w a2 8 0) (by omega) (by omega) d1 h0 h1 zz_ps with ⟨a1, y, a3, a4, a5, a6⟩ | ⟨y, z, p2, a1, a3, a4, a5, a6⟩
    · refine Or.inl ⟨a1, y, ?_, a4, ?_, k1.tr a6 (Int.le_refl c)⟩
      · rw [eN, a3]
        simp only [fz_lc, if_true]
      · rw [a5]
        exact ng.1.1
    · rw [a1] at ng
      obtain ⟨b1, b2⟩ := ng.2.1 rfl
      obtain ⟨m1, m2, m3, m4⟩ := zl_nts ha (a := 0) (b := z) a4 hc
      refine Or.inr ⟨f_X12_notes y a2 0 z, (48, z), p2, a1, ?_, ⟨b1, ng.1.2⟩, m1, ⟨?_, True.intro⟩, (k1.tr a6 (Int.le_refl c)).tr m2 (Int.le_refl c)⟩
      · rw [eN, a3]
        simp only [fz_lc, if_neg zz_n10, a5]
      · rw [m3]
        rfl
  · simp only [if_neg g1, if_true]
    by_cases g2 : zl_fo (zz_pk T n p) = -1
    · rw [if_pos g2, if_pos g2]
      simp only [fz_lc, zz_wrong]
      exact Or.inl ⟨by first | decide | (dsimp only; decide) | (dsimp only), _, rfl, zz_ps, by rw [zz_pj (by decide), hD.2.1.1]; exact Int.le_refl p, zl_eq.pt ha (by decide)⟩
    · have hp := zz_pk_lt (T := T) (n := n) (p := p) (fun z => g2 (by rw [z]; decide))
      rw [if_neg g2, if_neg g2]
      obtain ⟨m1, m2, m3, m4⟩ := zl_nts ha (a := 1) (b := zl_fo (zz_pk T n p)) hD hc
      obtain ⟨m5, m6⟩ := zl_at ha (x := p + 1) m1
      refine Or.inr ⟨_, (105, zz_pk T n p), p + 1, rfl, rfl, ⟨by omega, by omega⟩, m5, ⟨?_, True.intro⟩, m2.tr m6 (by omega)⟩
      rw [zz_pa ha.2.2.1.1, m3]
      rfl
theorem zl_mo (ha : zl_aq a2 tb bs bw) (hn : n ≤ 240) : ∀ (m : Nat) (op p c : Int) (W : List (Int × Int)) (w : fx_U), (n - p).toNat < m → zl_D T a2 tb bs bw n p op c W w → 0 ≤ p → p ≤ n → 0 ≤ c → 0 ≤ op → op ≤ 6 → p ≤ (f_X12_readsFactor w a2).2 a2 5 := by
  intro m
  induction m with
  | zero => intro op p c W w h; omega
  | succ m ih =>
    intro op p c W w h hD h0 h1 hc ho0 ho1
    by_cases q : zz_pk T n p = 91
    · have hp := zz_pk_lt (T := T) (n := n) (p := p) (by omega)
      by_cases q2 : op = 6
      · rw [zl_rf5 hD h0 q q2]
        show p ≤ fx_pt w a2 7 (zz_ft 5 p) a2 5
        rw [zz_pj (by decide), hD.2.1.1]
        exact Int.le_refl p
      · obtain ⟨w1, e1, e2, -⟩ := zl_rf1 ha hn hD h0 hc q ⟨ho0, by omega⟩
        have z := ih (op + 1) (p + 1) c _ w1 (by omega) e2 (by omega) (by omega) hc (by omega) (by omega)
        rw [e1]
        omega
    · rcases zl_rfo (g := fun p => (5, p, [])) (room := false) ha hn hD h0 h1 hc q with ⟨-, y, a1, -, a2', -⟩ | ⟨y, it, p2, -, a1, a2', a3, -⟩
      · rw [a1]
        exact a2'
      · rw [a1]
        show p ≤ y a2 5
        rw [a3.2.1.1]
        omega
theorem zl_ss {x : Int} (h : ¬ (x = 42 ∨ x = 47 ∨ x = 37) ∧ ¬ (x = 43 ∨ x = 45)) : f_X12_sumSign w x = -1 := by
  unfold f_X12_sumSign
  rw [if_neg (by omega), if_neg (by omega), if_neg (by omega), if_neg (by omega), if_neg (by omega)]
/-- a factor -/
theorem zl_FR (ha : zl_aq a2 tb bs bw) (hn : n ≤ 240) {gS : Int → zl_O} {room : Bool} (ho : 0 ≤ op ∧ op ≤ 6) (hr : room = true ↔ op < 6) (hS : room = true → zl_okR T a2 tb bs bw n 2 (op + 1) (zl_nt2 2) gS) (hg : room = true → zl_gd n gS) (he : room = true → zl_en T n gS) : zl_okR T a2 tb bs bw n 7 op (fun _ => True) (zl_fac T n gS room) := by
  intro base p c W f w hD h0 h1 hc hb hWp _ hf
  by_cases q : zz_pk T n p = 91
  · have hp := zz_pk_lt (T := T) (n := n) (p := p) (by omega)
    have fa : zl_fac T n gS room p = if room = true then zl_ex T n 93 (gS (p + 1)) else (5, p, []) := by
      unfold zl_fac
      rw [if_pos q]
    rw [fa]
    by_cases r : room = true
    · rw [if_pos r]
      have ho2 := hr.mp r
      obtain ⟨w1, e1, e2, e3⟩ := zl_rf1 ha hn hD h0 hc q ⟨ho.1, by omega⟩
      have eFM : zl_FM a2 bw base f w = zl_FM a2 bw base f w1 := by
        unfold zl_FM
        rw [e1]
      rw [e1] at hf
      have lw : ((((14 : Int), (0 : Int)) :: W).length : Int) = (W.length : Int) + 1 := by
        rw [List.length_cons]
        omega
      have res := hS r base (p + 1) c ((14, 0) :: W) f w1 e2 (by omega) (by omega) hc ⟨hb.1, by omega⟩ (by omega) (fun x R z => by
        cases z
        show ¬ ((2 : Int) ≤ 14 ∧ (14 : Int) ≤ 6)
        decide) hf
      rw [← eFM] at res
      have zg := hg r (p + 1) (by omega) (by omega)
      have ze := he r (p + 1) (by omega) (by omega)
      unfold zl_ex
      rcases res with ⟨a1, a2', a3, a4⟩ | ⟨a1, F, y, P, e, b1, b2, b3, b4, b5, b6, b7, b8⟩
      · rw [if_neg a1]
        exact Or.inl ⟨a1, a2', a3, e3.tr a4 (Int.le_refl c)⟩
      · have ze := ze a1
        obtain ⟨z1, z2⟩ := zg.2.1 a1
        rw [if_pos a1]
        obtain ⟨G, rfl⟩ : ∃ G : Nat, F = G + 1 := ⟨F - 1, by have := zg.1; omega⟩
        have hh := zl_hr b3 (show 0 ≤ (gS (p + 1)).2.1 by omega)
        have lenP : (P ++ ((14 : Int), (0 : Int)) :: W).length = P.length + W.length + 1 := by
          rw [List.length_append, List.length_cons]
          omega
        have has := zl_has1 (base := base) (P := P) (R := W) (x := (14, 0)) b3 rfl ⟨hb.1, hb.2⟩ (by have := zg.1; omega)
        have eK : zl_MM a2 bw base (G + 1) y = kB_X12_readsSum_14 (kL_X12_readsSum_14 a2 base bw G) a2 base bw y (y a2 10) (y a2 11) (y a2 5) := rfl
        by_cases g3 : zz_pk T n (gS (p + 1)).2.1 = 93
        · have hq := zz_pk_lt (T := T) (n := n) (p := (gS (p + 1)).2.1) (by omega)
          rw [if_pos g3]
          have clo := zl_close ha (pq := (gS (p + 1)).2.1) (b := 1) (lo := 2) (W := (14, 0) :: W) (Or.inr ⟨rfl, rfl⟩) (fun x R z => by
            cases z
            show ¬ ((2 : Int) ≤ 14 ∧ (14 : Int) ≤ 6)
            decide) P (Int.toNat ((P ++ (14, 0) :: W).length : Int) + 1) (c + (e.length : Int)) (c + (e.length : Int)) ((P ++ (14, 0) :: W).length : Int) y b5 (by rw [Int.toNat_natCast, lenP]; omega) rfl (by omega) b3
          have eC : f_X12_closesSums y a2 1 = kL_X12_closesSums_0 a2 1 (gS (p + 1)).2.1 (Int.toNat ((P ++ (14, 0) :: W).length : Int) + 1) y (c + (e.length : Int)) ((P ++ (14, 0) :: W).length : Int) (gS (p + 1)).2.1 := by
            unfold f_X12_closesSums
            simp only [fz_lt, fz_lr, b3.2.1.1, b3.2.1.2.2.1, b3.2.1.2.2.2]
          rw [← eC] at clo
          obtain ⟨t, ht⟩ : ∃ t : fx_U, t = f_X12_closesSums y a2 1 := ⟨_, rfl⟩
          rw [← ht] at clo
          obtain ⟨d1, d2, d3⟩ := clo
          obtain ⟨d4, d5⟩ := zl_pop ha (x := (14, 0)) (R := W) (r := ((((14 : Int), (0 : Int)) :: W).length : Int) - 1) d1 (by omega)
          obtain ⟨d6, d7⟩ := zl_opn ha (x := op) d4
          obtain ⟨d8, d9⟩ := zl_at ha (x := (gS (p + 1)).2.1 + 1) d6
          have lenC : ((gS (p + 1)).2.2.length : Int) = (e.length : Int) + (P.length : Int) := by
            rw [b7, List.length_append, List.length_map]
            omega
          refine Or.inr ⟨rfl, G, _, [], (gS (p + 1)).2.2, ?_, ?_, ?_, ?_, fun z hz => absurd hz (List.not_mem_nil), ?_, ?_, e3.tr (b8.tr (d2.tr (d5.tr (d7.tr d9 (by omega)) (by omega)) (by omega)) (by omega)) (Int.le_refl c)⟩
          · rw [b1, eK]
            unfold kB_X12_readsSum_14 kJ_X12_readsSum_163
            simp only [fz_lt, fz_ls, hh, zl_ss ze, has, if_true, if_pos g3, if_neg zz_n10]
            rw [← ht, d1.2.1.2.2.2, d4.2.1.2.1, b3.2.1.1, zz_wsub (zz_sml ⟨by omega, by omega⟩) (zz_sml ⟨by decide, by decide⟩) (zz_sml ⟨by omega, by omega⟩), show op + 1 - 1 = op by omega]
            unfold zl_MM
            rw [d8.2.1.1, d8.2.1.2.2.1, d8.2.1.2.2.2, d1.2.1.2.2.1, show ((((14 : Int), (0 : Int)) :: W).length : Int) - 1 = (W.length : Int) by omega]
          · show 260 - ((gS (p + 1)).2.1 + 1) < (G : Int)
            omega
          · show zl_D T a2 tb bs bw n ((gS (p + 1)).2.1 + 1) op (c + ((gS (p + 1)).2.2.length : Int)) ([] ++ W) _
            rw [List.nil_append, show c + ((gS (p + 1)).2.2.length : Int) = c + (e.length : Int) + (P.length : Int) by omega]
            exact d8
          · show (([] ++ W : List (Int × Int)).length : Int) ≤ (gS (p + 1)).2.1 + 1
            rw [List.nil_append]
            omega
          · have k1 : zl_ce bs t c (gS (p + 1)).2.2 := by
              rw [b7]
              exact zl_ce_app e _ c (zl_ce_keep d2.2.2 e c hc (Int.le_refl _) b6) d3
            exact zl_ce_keep (e := c + ((gS (p + 1)).2.2.length : Int)) (fun i _ => (zz_pa ha.2.2.1.1).trans ((zz_pa ha.2.2.1.1).trans (zz_pa ha.2.2.1.1))) _ c hc (Int.le_refl _) k1
          · show (gS (p + 1)).2.2 = (gS (p + 1)).2.2 ++ ([] : List (Int × Int)).map (fun z : Int × Int => (zl_sg z.1, 0))
            rw [List.map_nil, List.append_nil]
        · rw [if_neg g3]
          refine Or.inl ⟨by first | decide | (dsimp only; decide) | (dsimp only), ?_, ?_, ?_⟩
          all_goals rw [b1, eK]
          all_goals unfold kB_X12_readsSum_14 kJ_X12_readsSum_138
          all_goals simp only [fz_lt, fz_ls, fz_lc, hh, zl_ss ze, has, if_true, if_neg g3, if_neg zz_n10, zz_wrong, b3.2.1.1]
          · exact zz_ps
          · exact e3.tr (b8.tr (zl_eq.pt ha (by decide)) (Int.le_refl c)) (Int.le_refl c)
    · rw [if_neg r]
      have ho6 : op = 6 := by
        by_cases z : op < 6
        · exact absurd (hr.mpr z) r
        · omega
      have e := zl_rf5 hD h0 q ho6
      unfold zl_FM
      rw [e]
      simp only [if_true]
      exact Or.inl ⟨by first | decide | (dsimp only; decide) | (dsimp only), rfl, zz_ps, zl_eq.pt ha (by decide)⟩
  · rcases zl_rfo (g := gS) (room := room) ha hn hD h0 h1 hc q with ⟨a0, y, a1, a2', a3, a4⟩ | ⟨y, it, p2, a0, a1, a2', a3, a4, a5⟩
    · unfold zl_FM
      rw [a1]
      simp only [if_true]
      exact Or.inl ⟨a0, rfl, a2', a4⟩
    · rw [a1] at hf
      have hf2 : 260 - y a2 5 < (f : Int) := hf
      rw [a3.2.1.1] at hf2
      rw [a0]
      unfold zl_FM
      rw [a1, if_neg zz_n10]
      refine Or.inr ⟨rfl, f, y, [], [it], rfl, hf2, a3, ?_, fun z hz => absurd hz (List.not_mem_nil), a4, ?_, a5⟩
      · show (([] ++ W : List (Int × Int)).length : Int) ≤ p2
        rw [List.nil_append]
        omega
      · rfl
theorem zl_sgn {x : Int} (h : x = 42 ∨ x = 47 ∨ x = 37 ∨ x = 43 ∨ x = 45) : zl_sg (f_X12_sumSign w x) = x := by
  rcases h with rfl | rfl | rfl | rfl | rfl <;> rfl
theorem zl_Q.weak {lo lo2 : Int} {r : zl_O} {x : Int × fx_U} (h : zl_Q T a2 tb bs bw n base lo op c W w r x) (hl : lo2 ≤ lo) : zl_Q T a2 tb bs bw n base lo2 op c W w r x := by
  rcases h with h | ⟨a1, f, y, P, e, b1, b2, b3, b4, b5, b6⟩
  · exact Or.inl h
  · exact Or.inr ⟨a1, f, y, P, e, b1, b2, b3, b4, fun z hz => ⟨by have := b5 z hz; omega, (b5 z hz).2⟩, b6⟩
/-- a term -/
theorem zl_TR (ha : zl_aq a2 tb bs bw) (hn : n ≤ 240) (ho : 0 ≤ op ∧ op ≤ 6) {g : Int → zl_O} (hF : zl_okR T a2 tb bs bw n 7 op (fun _ => True) g) (hg : zl_gd n g) : zl_okR T a2 tb bs bw n 4 op (zl_nt2 4) (zl_term T n g) := by
  intro base p c W f w hD h0 h1 hc hb hWp hW hf
  have key : ∀ (m : Nat) (r : zl_O) (x : Int × fx_U), zl_g1 n p r → zl_Q T a2 tb bs bw n base 4 op c W w r x → zl_Q T a2 tb bs bw n base 4 op c W w (zl_tl T n g m r) x := by
    intro m
    induction m with
    | zero => intro r x _ h; exact h
    | succ m ih =>
      intro r x hr h
      unfold zl_tl
      by_cases t : r.1 = 0 ∧ (zz_pk T n r.2.1 = 42 ∨ zz_pk T n r.2.1 = 47 ∨ zz_pk T n r.2.1 = 37)
      · have hp := zz_pk_lt (T := T) (n := n) (p := r.2.1) (by omega)
        have hb2 := hr.1
        have sg := zl_sgn (w := w) (x := zz_pk T n r.2.1) (by omega)
        have kk : ∀ u : fx_U, f_X12_sumSign u (zz_pk T n r.2.1) = f_X12_sumSign w (zz_pk T n r.2.1) := fun _ => rfl
        have k46 : 4 ≤ f_X12_sumSign w (zz_pk T n r.2.1) ∧ f_X12_sumSign w (zz_pk T n r.2.1) ≤ 6 := by
          rcases t.2 with z | z | z
          · rw [z]
            exact (show (4 : Int) ≤ 4 ∧ (4 : Int) ≤ 6 by decide)
          · rw [z]
            exact (show (4 : Int) ≤ 5 ∧ (5 : Int) ≤ 6 by decide)
          · rw [z]
            exact (show (4 : Int) ≤ 6 ∧ (6 : Int) ≤ 6 by decide)
        rw [if_pos t]
        exact ih _ x (zl_op_g hg h0 hr t.1 (by omega)).1 (zl_stp ha hn (k := f_X12_sumSign w (zz_pk T n r.2.1)) (b := 0) (lo2 := 7) (tp := fun _ => True) (Or.inl ⟨rfl, rfl⟩) (Or.inl ⟨rfl, k46.1, k46.2⟩) (by decide) hF hg hW True.intro hc hb t.1 (by omega) sg rfl kk hp h (fun u p2 c2 V hu q1 q2 q3 => zl_mo ha hn _ op p2 c2 V u (Nat.lt_succ_self _) hu q1 q2 q3 ho.1 ho.2))
      · rw [if_neg t]
        exact h
  exact key 241 (g p) _ (hg p h0 h1) ((hF base p c W f w hD h0 h1 hc hb hWp True.intro hf).weak (by decide))
/-- a sum -/
theorem zl_SR (ha : zl_aq a2 tb bs bw) (hn : n ≤ 240) (ho : 0 ≤ op ∧ op ≤ 6) {g : Int → zl_O} (hF : zl_okR T a2 tb bs bw n 7 op (fun _ => True) g) (hg : zl_gd n g) : zl_okR T a2 tb bs bw n 2 op (zl_nt2 2) (zl_sum T n g) := by
  intro base p c W f w hD h0 h1 hc hb hWp hW hf
  have tR := zl_TR ha hn ho hF hg
  have tg := zl_term_g (T := T) hg
  have key : ∀ (m : Nat) (r : zl_O) (x : Int × fx_U), zl_g1 n p r → zl_Q T a2 tb bs bw n base 2 op c W w r x → zl_Q T a2 tb bs bw n base 2 op c W w (zl_sl T n (zl_term T n g) m r) x := by
    intro m
    induction m with
    | zero => intro r x _ h; exact h
    | succ m ih =>
      intro r x hr h
      unfold zl_sl
      by_cases t : r.1 = 0 ∧ (zz_pk T n r.2.1 = 43 ∨ zz_pk T n r.2.1 = 45)
      · have hp := zz_pk_lt (T := T) (n := n) (p := r.2.1) (by omega)
        have hb2 := hr.1
        have sg := zl_sgn (w := w) (x := zz_pk T n r.2.1) (by omega)
        have kk : ∀ u : fx_U, f_X12_sumSign u (zz_pk T n r.2.1) = f_X12_sumSign w (zz_pk T n r.2.1) := fun _ => rfl
        have k23 : 2 ≤ f_X12_sumSign w (zz_pk T n r.2.1) ∧ f_X12_sumSign w (zz_pk T n r.2.1) ≤ 3 := by
          rcases t.2 with z | z
          · rw [z]
            exact (show (2 : Int) ≤ 2 ∧ (2 : Int) ≤ 3 by decide)
          · rw [z]
            exact (show (2 : Int) ≤ 3 ∧ (3 : Int) ≤ 3 by decide)
        rw [if_pos t]
        exact ih _ x (zl_op_g tg h0 hr t.1 (by omega)).1 (zl_stp ha hn (k := f_X12_sumSign w (zz_pk T n r.2.1)) (b := 1) (lo2 := 4) (tp := zl_nt2 4) (Or.inr ⟨rfl, rfl⟩) (Or.inr ⟨rfl, k23.1, k23.2⟩) (by decide) tR tg hW (fun y R z => by
          cases z
          show ¬ (4 ≤ f_X12_sumSign w (zz_pk T n r.2.1) ∧ f_X12_sumSign w (zz_pk T n r.2.1) ≤ 6)
          omega) hc hb t.1 (by omega) sg rfl kk hp h (fun u p2 c2 V hu q1 q2 q3 => zl_mo ha hn _ op p2 c2 V u (Nat.lt_succ_self _) hu q1 q2 q3 ho.1 ho.2))
      · rw [if_neg t]
        exact h
  have hW4 : zl_nt2 4 W := fun x R z q => hW x R z ⟨by omega, q.2⟩
  exact key 241 (zl_term T n g p) _ (tg p h0 h1) ((tR base p c W f w hD h0 h1 hc hb hWp hW4 hf).weak (by decide))
end LawU
