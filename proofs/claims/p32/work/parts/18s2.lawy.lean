/-! THE LAW'S TEXT in the reference: pieces, parts, a C -/
def zl_nk (k : Nat) (r : zl_O) : zl_O := if r.1 = 0 then (0, r.2.1, r.2.2 ++ List.replicate k (33, 0)) else r
section LawY
variable {T : Nat → Int} {a2 tb bs bw : Nat} {n p c op t : Int} {W : List (Int × Int)} {w v : fx_U}
theorem zl_pa_app : ∀ (J K : List (Int × Int)) (w : fx_U), zl_pa bs t (J ++ K) w = zl_pa bs t K (zl_pa bs t J w)
  | [], _, _ => rfl
  | x :: J, K, w => zl_pa_app J K _
theorem zl_ce_far {u u1 : fx_U} {e : Int} (k : ∀ i : Nat, e ≤ (i : Int) → u1 bs i = u bs i) : ∀ (a : List (Int × Int)) (s : Int), (0 ≤ s ∧ e ≤ s) → zl_ce bs u s a → zl_ce bs u1 s a
  | [], _, _, _ => True.intro
  | c :: cs, s, h0, h => ⟨(k s.toNat (by omega)).trans h.1, zl_ce_far k cs (s + 1) (by omega) h.2⟩
/-- what a ! waits for ends -/
theorem zl_ends (ha : zl_aq a2 tb bs bw) (hW : zl_ntk 10 W) {pq : Int} :
    ∀ (N : List (Int × Int)) (f : Nat) (op c cq wq : Int) (w : fx_U), (∀ z ∈ N, z.1 = 10) → N.length < f → wq = ((N ++ W).length : Int) → 0 ≤ c → ((N.length : Int) ≤ op ∧ op ≤ 1000) → zl_D T a2 tb bs bw n p op c (N ++ W) w → zl_D T a2 tb bs bw n p (op - (N.length : Int)) (c + (N.length : Int)) W (kL_X12_endsPiece_0 a2 pq f w cq wq pq) ∧ zl_eq a2 bs bw c w (kL_X12_endsPiece_0 a2 pq f w cq wq pq) ∧ zl_ce bs (kL_X12_endsPiece_0 a2 pq f w cq wq pq) c (List.replicate N.length (33, 0)) := by
  intro N
  induction N with
  | nil =>
    intro f op c cq wq w _ hf hw hc ho hD
    obtain ⟨g, rfl⟩ : ∃ g : Nat, f = g + 1 := ⟨f - 1, by omega⟩
    have eK : kL_X12_endsPiece_0 a2 pq (g + 1) w cq wq pq = kB_X12_endsPiece_0 (kL_X12_endsPiece_0 a2 pq g) a2 pq w cq wq pq := rfl
    have top : f_X12_waitTop w a2 ≠ 10 := by
      cases W with
      | nil =>
        rw [zl_top0 hD]
        decide
      | cons x R =>
        rw [zl_top hD]
        exact hW x R rfl
    have e : kL_X12_endsPiece_0 a2 pq (g + 1) w cq wq pq = w := by
      rw [eK]
      unfold kB_X12_endsPiece_0
      simp only [fz_lt]
      rw [if_neg top]
    rw [e]
    refine ⟨?_, zl_eq.rf, True.intro⟩
    have e1 : op - ((([] : List (Int × Int)).length : Nat) : Int) = op := by
      show op - ((0 : Nat) : Int) = op
      omega
    have e2 : c + ((([] : List (Int × Int)).length : Nat) : Int) = c := by
      show c + ((0 : Nat) : Int) = c
      omega
    rw [e1, e2]
    exact hD
  | cons x N ih =>
    intro f op c cq wq w hN hf hw hc ho hD
    rw [List.length_cons] at hf ho
    obtain ⟨g, rfl⟩ : ∃ g : Nat, f = g + 1 := ⟨f - 1, by omega⟩
    have hx := hN x (List.mem_cons_self ..)
    have k1 : f_X12_waitTop w a2 = 10 := (zl_top (R := N ++ W) hD).trans hx
    have eK : kL_X12_endsPiece_0 a2 pq (g + 1) w cq wq pq = kB_X12_endsPiece_0 (kL_X12_endsPiece_0 a2 pq g) a2 pq w cq wq pq := rfl
    obtain ⟨n1, n2, n3, n4⟩ := zl_nts ha (a := 10) (b := 0) hD hc
    have hw2 : wq - 1 = ((N ++ W).length : Int) := by
      rw [hw]
      show (((N ++ W).length + 1 : Nat) : Int) - 1 = ((N ++ W).length : Int)
      omega
    obtain ⟨p1, p2⟩ := zl_pop ha (x := x) (R := N ++ W) n1 hw2
    obtain ⟨p3, p4⟩ := zl_opn ha (x := op - 1) p1
    have e : kL_X12_endsPiece_0 a2 pq (g + 1) w cq wq pq = kL_X12_endsPiece_0 a2 pq g (fx_pt (fx_pt (f_X12_notes w a2 10 0) a2 11 (wq - 1)) a2 9 (op - 1)) (c + 1) (wq - 1) pq := by
      rw [eK]
      unfold kB_X12_endsPiece_0
      simp only [fz_lt, fz_ls, k1, n1.2.1.2.2.1]
      rw [if_pos True.intro, p1.2.1.2.1, zz_wsub (zz_sml ⟨by omega, by omega⟩) (zz_sml ⟨by decide, by decide⟩) (zz_sml ⟨by omega, by omega⟩)]
    rw [e]
    obtain ⟨i1, i2, i3⟩ := ih g (op - 1) (c + 1) (c + 1) (wq - 1) _ (fun y hy => hN y (List.mem_cons_of_mem x hy)) (by omega) hw2 (by omega) ⟨by omega, by omega⟩ p3
    refine ⟨?_, n2.tr (p2.tr (p4.tr i2 (by omega)) (by omega)) (by omega), ?_⟩
    · rw [show op - (((x :: N).length : Nat) : Int) = op - 1 - (N.length : Int) by rw [List.length_cons]; omega, show c + (((x :: N).length : Nat) : Int) = c + 1 + (N.length : Int) by rw [List.length_cons]; omega]
      exact i1
    · rw [List.length_cons, List.replicate_succ]
      refine ⟨?_, i3⟩
      rw [i2.2.2 c.toNat (by omega), zz_pa ha.2.2.1.1, zz_pa ha.2.2.1.1]
      exact n3
theorem zl_endsP (ha : zl_aq a2 tb bs bw) (hW : zl_ntk 10 W) {N : List (Int × Int)} (hN : ∀ z ∈ N, z.1 = 10) (hc : 0 ≤ c) (ho : (N.length : Int) ≤ op ∧ op ≤ 1000) (hD : zl_D T a2 tb bs bw n p op c (N ++ W) w) : zl_D T a2 tb bs bw n p (op - (N.length : Int)) (c + (N.length : Int)) W (f_X12_endsPiece w a2) ∧ zl_eq a2 bs bw c w (f_X12_endsPiece w a2) ∧ zl_ce bs (f_X12_endsPiece w a2) c (List.replicate N.length (33, 0)) := by
  have e : f_X12_endsPiece w a2 = kL_X12_endsPiece_0 a2 p (Int.toNat ((N ++ W).length : Int) + 1) w c ((N ++ W).length : Int) p := by
    unfold f_X12_endsPiece
    simp only [fz_lt, fz_lr, hD.2.1.1, hD.2.1.2.2.1, hD.2.1.2.2.2]
  rw [e]
  exact zl_ends ha hW N _ op c c _ w hN (by rw [Int.toNat_natCast, List.length_append]; omega) rfl hc ho hD
/-- two sums compared, and what a ! waits for -/
theorem zl_cmR (ha : zl_aq a2 tb bs bw) (hn : n ≤ 240) {d : Nat} (hd : d ≤ 6) (ho : op = 6 - (d : Int)) {N : List (Int × Int)} (hN : ∀ z ∈ N, z.1 = 10) (hNo : (N.length : Int) ≤ op) (hW : zl_ntk 10 W) (hW2 : zl_nt2 2 (N ++ W)) (hD : zl_D T a2 tb bs bw n p op c (N ++ W) w) (h0 : 0 ≤ p) (h1 : p ≤ n) (hc : 0 ≤ c) (hWp : ((N ++ W).length : Int) ≤ p) :
    ((zl_cm T n (zl_S T n d) p).1 ≠ 0 ∧ ∃ y : fx_U, f_X12_readsCompared w a2 = (0, y) ∧ y a2 7 = zz_ft (zl_cm T n (zl_S T n d) p).1 (zl_cm T n (zl_S T n d) p).2.1 ∧ zl_eq a2 bs bw c w y) ∨ ((zl_cm T n (zl_S T n d) p).1 = 0 ∧ ∃ y : fx_U, f_X12_readsCompared w a2 = (1, y) ∧ zl_D T a2 tb bs bw n (zl_cm T n (zl_S T n d) p).2.1 (op - (N.length : Int)) (c + ((zl_nk N.length (zl_cm T n (zl_S T n d) p)).2.2.length : Int)) W y ∧ zl_ce bs y c (zl_nk N.length (zl_cm T n (zl_S T n d) p)).2.2 ∧ zl_eq a2 bs bw c w y) := by
  have g1 := zl_S_g (T := T) (n := n) d p h0 h1
  unfold f_X12_readsCompared zl_cm
  simp only [fz_lt, fz_lr, fz_lc]
  rcases zl_rS ha hn hd ho hD h0 h1 hc hWp hW2 with ⟨a1, y, a3, a4, a5⟩ | ⟨a1, y, a3, a4, a5, a6⟩
  · rw [a3, if_neg a1]
    simp only [if_true]
    exact Or.inl ⟨a1, y, rfl, a4, a5⟩
  · obtain ⟨z1, z2⟩ := g1.2.1 a1
    have hh := zl_hr a4 (show 0 ≤ (zl_S T n d p).2.1 by omega)
    rw [a3, if_pos a1]
    simp only [if_neg zz_n10, hh]
    have cmp : ∀ k : Int, (zz_pk T n (zl_S T n d p).2.1 = 60 ∧ k = 7) ∨ (zz_pk T n (zl_S T n d p).2.1 = 62 ∧ k = 8) ∨ (zz_pk T n (zl_S T n d p).2.1 = 61 ∧ k = 9) → ((zl_op T n (zl_S T n d) (zl_S T n d p)).1 ≠ 0 ∧ ∃ x : fx_U, kJ_X12_readsCompared_52 y a2 (y a2 5) k = (0, x) ∧ x a2 7 = zz_ft (zl_op T n (zl_S T n d) (zl_S T n d p)).1 (zl_op T n (zl_S T n d) (zl_S T n d p)).2.1 ∧ zl_eq a2 bs bw c w x) ∨ ((zl_op T n (zl_S T n d) (zl_S T n d p)).1 = 0 ∧ ∃ x : fx_U, kJ_X12_readsCompared_52 y a2 (y a2 5) k = (1, x) ∧ zl_D T a2 tb bs bw n (zl_op T n (zl_S T n d) (zl_S T n d p)).2.1 (op - (N.length : Int)) (c + ((zl_nk N.length (zl_op T n (zl_S T n d) (zl_S T n d p))).2.2.length : Int)) W x ∧ zl_ce bs x c (zl_nk N.length (zl_op T n (zl_S T n d) (zl_S T n d p))).2.2 ∧ zl_eq a2 bs bw c w x) := by
      intro k hk
      have hp := zz_pk_lt (T := T) (n := n) (p := (zl_S T n d p).2.1) (by omega)
      have g2 := zl_S_g (T := T) (n := n) d ((zl_S T n d p).2.1 + 1) (by omega) (by omega)
      obtain ⟨d1, d2⟩ := zl_at ha (x := (zl_S T n d p).2.1 + 1) a4
      unfold kJ_X12_readsCompared_52 zl_op
      simp only [fz_lt, fz_ls, fz_lc, a4.2.1.1]
      rw [if_neg (show ¬ k = -1 by omega)]
      rcases zl_rS ha hn hd ho d1 (by omega) (by omega) (by omega) (by omega) hW2 with ⟨b1, x, b3, b4, b5⟩ | ⟨b1, x, b3, b4, b5, b6⟩
      · rw [b3, if_neg b1]
        simp only [if_true]
        exact Or.inl ⟨b1, x, rfl, b4, a6.tr (d2.tr b5 (Int.le_refl _)) (by omega)⟩
      · obtain ⟨z3, z4⟩ := g2.2.1 b1
        obtain ⟨m1, m2, m3, m4⟩ := zl_nts ha (a := k) (b := 0) b4 (by omega)
        obtain ⟨q1, q2, q3⟩ := zl_endsP ha hW hN (by omega) ⟨hNo, by omega⟩ m1
        rw [b3, if_pos b1]
        simp only [if_neg zz_n10]
        refine Or.inr ⟨by first | exact rfl | exact True.intro, _, rfl, ?_, ?_, a6.tr (d2.tr (b6.tr (m2.tr q2 (by omega)) (by omega)) (by omega)) (by omega)⟩
        · show zl_D T a2 tb bs bw n (zl_S T n d ((zl_S T n d p).2.1 + 1)).2.1 (op - (N.length : Int)) (c + (((zl_S T n d p).2.2 ++ (zl_S T n d ((zl_S T n d p).2.1 + 1)).2.2 ++ [(zz_pk T n (zl_S T n d p).2.1, 0)] ++ List.replicate N.length (33, 0)).length : Int)) W _
          rw [List.length_append, List.length_append, List.length_append, List.length_replicate, show c + (((zl_S T n d p).2.2.length + (zl_S T n d ((zl_S T n d p).2.1 + 1)).2.2.length + [((zz_pk T n (zl_S T n d p).2.1, 0) : Int × Int)].length + N.length : Nat) : Int) = c + ((zl_S T n d p).2.2.length : Int) + ((zl_S T n d ((zl_S T n d p).2.1 + 1)).2.2.length : Int) + 1 + (N.length : Int) by
            have : [((zz_pk T n (zl_S T n d p).2.1, 0) : Int × Int)].length = 1 := rfl
            omega]
          exact q1
        · show zl_ce bs _ c ((zl_S T n d p).2.2 ++ (zl_S T n d ((zl_S T n d p).2.1 + 1)).2.2 ++ [(zz_pk T n (zl_S T n d p).2.1, 0)] ++ List.replicate N.length (33, 0))
          refine zl_ce_app _ _ c (zl_ce_app _ _ c (zl_ce_app _ _ c ?_ ?_) ?_) ?_
          · exact zl_ce_keep q2.2.2 _ c hc (by omega) (zl_ce_keep m2.2.2 _ c hc (by omega) (zl_ce_keep b6.2.2 _ c hc (by omega) (zl_ce_keep d2.2.2 _ c hc (by omega) a5)))
          · exact zl_ce_keep q2.2.2 _ _ (by omega) (by omega) (zl_ce_keep m2.2.2 _ _ (by omega) (by omega) b5)
          · rw [List.length_append, show c + (((zl_S T n d p).2.2.length + (zl_S T n d ((zl_S T n d p).2.1 + 1)).2.2.length : Nat) : Int) = c + ((zl_S T n d p).2.2.length : Int) + ((zl_S T n d ((zl_S T n d p).2.1 + 1)).2.2.length : Int) by omega]
            refine ⟨?_, True.intro⟩
            rw [q2.2.2 _ (by omega), m3]
            rcases hk with ⟨h1, h2⟩ | ⟨h1, h2⟩ | ⟨h1, h2⟩ <;> rw [h1, h2] <;> rfl
          · rw [List.length_append, List.length_append, show c + (((zl_S T n d p).2.2.length + (zl_S T n d ((zl_S T n d p).2.1 + 1)).2.2.length + [((zz_pk T n (zl_S T n d p).2.1, 0) : Int × Int)].length : Nat) : Int) = c + ((zl_S T n d p).2.2.length : Int) + ((zl_S T n d ((zl_S T n d p).2.1 + 1)).2.2.length : Int) + 1 by
              have : [((zz_pk T n (zl_S T n d p).2.1, 0) : Int × Int)].length = 1 := rfl
              omega]
            exact q3
    by_cases t1 : zz_pk T n (zl_S T n d p).2.1 = 60
    · rw [if_pos t1, if_pos (Or.inl t1)]
      exact cmp 7 (Or.inl ⟨t1, rfl⟩)
    · by_cases t2 : zz_pk T n (zl_S T n d p).2.1 = 62
      · rw [if_neg t1, if_pos t2, if_pos (Or.inr (Or.inl t2))]
        exact cmp 8 (Or.inr (Or.inl ⟨t2, rfl⟩))
      · by_cases t3 : zz_pk T n (zl_S T n d p).2.1 = 61
        · rw [if_neg t1, if_neg t2, if_pos t3, if_pos (Or.inr (Or.inr t3))]
          exact cmp 9 (Or.inr (Or.inr ⟨t3, rfl⟩))
        · rw [if_neg t1, if_neg t2, if_neg t3, if_neg (by omega)]
          unfold kJ_X12_readsCompared_52
          rw [if_pos rfl]
          simp only [fz_lc, zz_wrong, a4.2.1.1]
          exact Or.inl ⟨by first | decide | (dsimp only; decide) | (dsimp only), _, rfl, zz_ps, a6.tr (zl_eq.pt (c := c) ha (by decide)) (Int.le_refl c)⟩
end LawY
