/-! THE LAW'S TEXT in the reference: jumps, pieces, parts, a C whole -/
def zl_ks (b z : Int) : Prop := z = 11 ∨ (b = 1 ∧ z = 12)
def zl_tw (lo : Int) (W : List (Int × Int)) : Prop := ∃ (x : Int × Int) (R : List (Int × Int)), W = x :: R ∧ lo ≤ x.1 ∧ x.1 ≤ 13
def zl_okG (T : Nat → Int) (a2 tb bs bw : Nat) (n op : Int) (ks : Int → Prop) (lo : Int) (g : Int → zl_O) : Prop := ∀ (m : Nat) (p c : Int) (W : List (Int × Int)) (w : fx_U), zl_D T a2 tb bs bw n p op c W w → 0 ≤ p → p ≤ n → 0 ≤ c → c ≤ p → (W.length : Int) ≤ p → zl_tw lo W → 260 - p < (m : Int) → zl_H T a2 tb bs bw n op c ks W w (g p) (zl_AA a2 m w)
section LawZ
variable {T : Nat → Int} {a2 tb bs bw : Nat} {n p c op : Int} {W : List (Int × Int)} {w v : fx_U}
theorem zl_H.ks {ks ks2 : Int → Prop} {r : zl_O} {x : Int × fx_U} (h : zl_H T a2 tb bs bw n op c ks W w r x) (k : ∀ z, ks z → ks2 z) : zl_H T a2 tb bs bw n op c ks2 W w r x := by
  rcases h with h | ⟨a1, m, f, y, J, b1, b2, b3, b4, b5, b6⟩
  · exact Or.inl h
  · exact Or.inr ⟨a1, m, f, y, J, b1, b2, b3, b4, fun z hz => k _ (b5 z hz), b6⟩
theorem zl_H.fr {ks : Int → Prop} {r : zl_O} {x : Int × fx_U} {w0 : fx_U} (k : zl_eq a2 bs bw c w0 w) (h : zl_H T a2 tb bs bw n op c ks W w r x) : zl_H T a2 tb bs bw n op c ks W w0 r x := by
  rcases h with ⟨a1, a2', a3, a4⟩ | ⟨a1, m, f, y, J, b1, b2, b3, b4, b5, b6, b7, b8, b9⟩
  · exact Or.inl ⟨a1, a2', a3, k.tr a4 (Int.le_refl c)⟩
  · exact Or.inr ⟨a1, m, f, y, J, b1, b2, b3, b4, b5, b6, b7, b8, k.tr b9 (Int.le_refl c)⟩
theorem zl_ej {t L : Int} : zl_e t ((38 : Int), L) = t + L ∧ zl_e t ((124 : Int), L) = t + L := by
  constructor
  · show (if (38 : Int) = 48 then L else if (38 : Int) = 105 then zl_fo L else if (38 : Int) = 38 ∨ (38 : Int) = 124 then t + L else 0) = t + L
    rw [if_neg (by decide), if_neg (by decide), if_pos (Or.inl rfl)]
  · show (if (124 : Int) = 48 then L else if (124 : Int) = 105 then zl_fo L else if (124 : Int) = 38 ∨ (124 : Int) = 124 then t + L else 0) = t + L
    rw [if_neg (by decide), if_neg (by decide), if_pos (Or.inr rfl)]
theorem zl_lan {b : Int} {t pq : Int} {V : List (Int × Int)} (hD : zl_D T a2 tb bs bw n pq op t V v) : f_X12_lands v a2 b = kL_X12_lands_0 a2 bw bs t pq b (V.length + 1) v t (V.length : Int) pq := by
  unfold f_X12_lands
  simp only [fz_lt, fz_lr, hD.1.2.2.1, hD.1.2.2.2, hD.2.1.1, hD.2.1.2.2.1, hD.2.1.2.2.2, Int.toNat_natCast]
/-- a jump, and what is read behind it -/
theorem zl_jst (ha : zl_aq a2 tb bs bw) (hn : n ≤ 240) {b k sg : Int} (hk : (b = 0 ∧ k = 11 ∧ sg = 38) ∨ (b = 1 ∧ k = 12 ∧ sg = 124)) {ks2 : Int → Prop} (h2 : ∀ z, ks2 z → zl_ks b z) {g : Int → zl_O} (hG : zl_okG T a2 tb bs bw n op ks2 k g) (hW : zl_tw (k + 1) W) {r : zl_O} {x : Int × fx_U} (h0 : 0 ≤ c) (r0 : r.1 = 0) (rp : 0 ≤ r.2.1 ∧ r.2.1 < n) (rc : c + (r.2.2.length : Int) ≤ r.2.1) (hs : zz_pk T n r.2.1 = sg) (h : zl_H T a2 tb bs bw n op c (zl_ks b) W w r x) : zl_H T a2 tb bs bw n op c (zl_ks b) W w (zl_jp T n g r) x := by
  rcases h with ⟨q, -⟩ | ⟨-, m, f, v, J, hx, ⟨hm, hf⟩, hD, hJW, hJ, hpw, hjw, hce, hE⟩
  · exact absurd r0 q
  · obtain ⟨F, rfl⟩ : ∃ F : Nat, f = F + 1 := ⟨f - 1, by omega⟩
    obtain ⟨t, ht⟩ : ∃ t : Int, t = c + (r.2.2.length : Int) := ⟨_, rfl⟩
    rw [← ht] at hD hjw hce
    have hh := zl_hr hD rp.1
    have lan := zl_land ha (b := b) (pq := r.2.1) (lo := c) (t := t) (W := W) (by omega) ⟨by omega, by omega⟩ (fun x R z => by
      obtain ⟨x0, R0, e, q1, q2⟩ := hW
      rw [e] at z
      injection z with z1 z2
      rw [← z1]
      omega) h0 J ((J ++ W).length + 1) ((J ++ W).length : Int) v hJ (by rw [List.length_append]; omega) rfl hjw hpw hD
    rw [← zl_lan hD] at lan
    obtain ⟨y, hy⟩ : ∃ y : fx_U, y = f_X12_lands v a2 b := ⟨_, rfl⟩
    rw [← hy] at lan
    obtain ⟨l1, l2, l3⟩ := lan
    have hh2 := zl_hr l1 rp.1
    obtain ⟨d1, d2⟩ := zl_push ha (k := k) (b := t) ⟨by omega, by omega⟩ l1
    obtain ⟨d3, d4, d5, d6⟩ := zl_nts ha (a := k) (b := 0) d1 (by omega)
    obtain ⟨d7, d8⟩ := zl_at ha (x := r.2.1 + 1) d3
    have eJ : f_X12_jumps y a2 k = fx_pt (f_X12_notes (fx_pt (fx_pt y bw W.length (1048576 * k + t)) a2 11 ((W.length : Int) + 1)) a2 k 0) a2 5 (r.2.1 + 1) := by
      unfold f_X12_jumps
      simp only [fz_lt, fz_lr, fz_ls, l1.1.2.2.2, l1.2.1.1, l1.2.1.2.2.1, l1.2.1.2.2.2, Int.toNat_natCast]
    obtain ⟨U, hU⟩ : ∃ U : fx_U, U = fx_pt (f_X12_notes (fx_pt (fx_pt y bw W.length (1048576 * k + t)) a2 11 ((W.length : Int) + 1)) a2 k 0) a2 5 (r.2.1 + 1) := ⟨_, rfl⟩
    rw [← hU] at eJ d7 d8
    have uT : U bs t.toNat = 1048576 * k := by
      rw [hU, zz_pa ha.2.2.1.1, d5, Int.add_zero]
    have eU : zl_eq a2 bs bw t y U := d2.tr (d4.tr d8 (by omega)) (by omega)
    have eE : zl_eq a2 bs bw c w U := hE.tr (l3.tr eU (by omega)) (by omega)
    have yce : zl_ce bs y c r.2.2 := zl_ce_keep (e := t) (fun i _ => l2 i) r.2.2 c h0 (by omega) hce
    have eK : zl_BB a2 m (F + 1) v = kB_X12_readsCondition_92 (kL_X12_readsCondition_92 a2 (kL_X12_readsCondition_40 a2 m) F) a2 (kL_X12_readsCondition_40 a2 m) v (v a2 10) (v a2 11) (v a2 5) := rfl
    have e215 : kJ_X12_readsCondition_215 y a2 (kL_X12_readsCondition_40 a2 m) k = zl_AA a2 m U := by
      unfold kJ_X12_readsCondition_215
      simp only [fz_lt, fz_ls, eJ]
      rfl
    have e195 : kJ_X12_readsCondition_195 v a2 (kL_X12_readsCondition_40 a2 m) b = zl_AA a2 m U := by
      unfold kJ_X12_readsCondition_195
      simp only [fz_lt, fz_ls, ← hy, hh2]
      rcases hk with ⟨b1, k1, s1⟩ | ⟨b1, k1, s1⟩
      · rw [if_pos (by omega), ← k1]
        exact e215
      · rw [if_neg (by omega), ← k1]
        exact e215
    have e180 : kJ_X12_readsCondition_180 v a2 (kL_X12_readsCondition_40 a2 m) = zl_AA a2 m U := by
      unfold kJ_X12_readsCondition_180
      simp only [fz_lt, hh]
      rcases hk with ⟨b1, k1, s1⟩ | ⟨b1, k1, s1⟩
      · rw [if_neg (by omega), ← b1]
        exact e195
      · rw [if_pos (by omega), ← b1]
        exact e195
    have step : x = zl_AA a2 m U := by
      rw [hx, eK]
      unfold kB_X12_readsCondition_92
      simp only [fz_lt, hh, e180]
      rcases hk with ⟨b1, k1, s1⟩ | ⟨b1, k1, s1⟩
      · rw [if_neg (by omega), if_pos (by omega)]
      · rw [if_neg (by omega), if_neg (by omega), if_pos (by omega)]
    have lw : (((k, t) :: W).length : Int) = (W.length : Int) + 1 := by
      rw [List.length_cons]
      omega
    have wl : (W.length : Int) ≤ r.2.1 := by
      rw [List.length_append] at hJW
      omega
    have res := hG m (r.2.1 + 1) (t + 1) ((k, t) :: W) U d7 (by omega) (by omega) (by omega) (by omega) (by omega) ⟨(k, t), W, rfl, Int.le_refl k, by show k ≤ 13; omega⟩ (by omega)
    rw [← step] at res
    unfold zl_jp
    rcases res with ⟨a1, a2', a3, a4⟩ | ⟨a1, m2, f2, v2, J2, c1, c2, c4, c5, c6, c7, c8, c9, c10⟩
    · rw [if_neg a1]
      exact Or.inl ⟨a1, a2', a3, eE.tr a4 (by omega)⟩
    · rw [if_pos a1]
      have tl : c + ((r.2.2 ++ (zz_pk T n r.2.1, ((g (r.2.1 + 1)).2.2.length : Int) + 1) :: (g (r.2.1 + 1)).2.2).length : Int) = t + 1 + ((g (r.2.1 + 1)).2.2.length : Int) := by
        rw [List.length_append, List.length_cons]
        omega
      refine Or.inr ⟨rfl, m2, f2, v2, J2 ++ [(k, t)], c1, c2, ?_, ?_, fun z hz => ?_, ?_, ?_, ?_, eE.tr c10 (by omega)⟩
      · show zl_D T a2 tb bs bw n (g (r.2.1 + 1)).2.1 op (c + ((r.2.2 ++ (zz_pk T n r.2.1, ((g (r.2.1 + 1)).2.2.length : Int) + 1) :: (g (r.2.1 + 1)).2.2).length : Int)) (J2 ++ [(k, t)] ++ W) v2
        rw [tl, List.append_assoc]
        exact c4
      · show ((J2 ++ [(k, t)] ++ W).length : Int) ≤ (g (r.2.1 + 1)).2.1
        rw [List.append_assoc]
        exact c5
      · rcases List.mem_append.mp hz with hz | hz
        · exact h2 _ (c6 z hz)
        · rw [List.mem_singleton.mp hz]
          show k = 11 ∨ (b = 1 ∧ k = 12)
          omega
      · refine List.pairwise_append.mpr ⟨c7, List.pairwise_cons.mpr ⟨fun z hz => (by cases hz), List.Pairwise.nil⟩, fun a ha' z hz => ?_⟩
        rw [List.mem_singleton.mp hz]
        have := (c8 a ha').1
        show a.2.toNat ≠ t.toNat
        omega
      · show zl_jw bs v2 c (c + ((r.2.2 ++ (zz_pk T n r.2.1, ((g (r.2.1 + 1)).2.2.length : Int) + 1) :: (g (r.2.1 + 1)).2.2).length : Int)) (J2 ++ [(k, t)])
        rw [tl]
        intro z hz
        rcases List.mem_append.mp hz with hz | hz
        · obtain ⟨⟨q1, q2⟩, q3⟩ := c8 z hz
          exact ⟨⟨by omega, by omega⟩, q3⟩
        · rw [List.mem_singleton.mp hz]
          refine ⟨⟨?_, ?_⟩, ?_⟩
          · show c ≤ t
            omega
          · show t < t + 1 + ((g (r.2.1 + 1)).2.2.length : Int)
            omega
          · show v2 bs t.toNat = 1048576 * k
            rw [c10.2.2 t.toNat (by omega)]
            exact uT
      · show zl_ce bs (zl_pa bs (c + ((r.2.2 ++ (zz_pk T n r.2.1, ((g (r.2.1 + 1)).2.2.length : Int) + 1) :: (g (r.2.1 + 1)).2.2).length : Int)) (J2 ++ [(k, t)]) v2) c (r.2.2 ++ (zz_pk T n r.2.1, ((g (r.2.1 + 1)).2.2.length : Int) + 1) :: (g (r.2.1 + 1)).2.2)
        rw [tl, zl_pa_app]
        obtain ⟨Z, hZ⟩ : ∃ Z : fx_U, Z = zl_pa bs (t + 1 + ((g (r.2.1 + 1)).2.2.length : Int)) J2 v2 := ⟨_, rfl⟩
        rw [← hZ] at c9 ⊢
        show zl_ce bs (fx_pt Z bs t.toNat (1048576 * k + (t + 1 + ((g (r.2.1 + 1)).2.2.length : Int)))) c (r.2.2 ++ (zz_pk T n r.2.1, ((g (r.2.1 + 1)).2.2.length : Int) + 1) :: (g (r.2.1 + 1)).2.2)
        refine zl_ce_app _ _ c ?_ ?_
        · refine zl_ce_keep (e := t) (u := y) (fun i hi => ?_) r.2.2 c h0 (by omega) yce
          rw [zz_pj (by omega), hZ, zl_pa_i J2 v2 (fun z hz => by have := (c8 z hz).1; omega), c10.2.2 i (by omega)]
          exact eU.2.2 i hi
        · rw [show c + (r.2.2.length : Int) = t from ht.symm]
          refine ⟨?_, zl_ce_far (e := t + 1) (fun i hi => zz_pj (by omega)) _ (t + 1) ⟨by omega, by omega⟩ c9⟩
          show fx_pt Z bs t.toNat (1048576 * k + (t + 1 + ((g (r.2.1 + 1)).2.2.length : Int))) bs t.toNat = 1048576 * zl_o0 (zz_pk T n r.2.1) + zl_e t (zz_pk T n r.2.1, ((g (r.2.1 + 1)).2.2.length : Int) + 1)
          rw [zz_ps, hs]
          rcases hk with ⟨b1, k1, s1⟩ | ⟨b1, k1, s1⟩
          · rw [s1, k1, zl_ej.1, show zl_o0 38 = 11 by decide]
            omega
          · rw [s1, k1, zl_ej.2, show zl_o0 124 = 12 by decide]
            omega
theorem zl_jlR (ha : zl_aq a2 tb bs bw) (hn : n ≤ 240) {b k sg : Int} (hk : (b = 0 ∧ k = 11 ∧ sg = 38) ∨ (b = 1 ∧ k = 12 ∧ sg = 124)) {ks2 : Int → Prop} (h2 : ∀ z, ks2 z → zl_ks b z) {g : Int → zl_O} (hG : zl_okG T a2 tb bs bw n op ks2 k g) (hg : zl_gd n g) (hW : zl_tw (k + 1) W) (h0 : 0 ≤ c) (hp : c ≤ p) : ∀ (f : Nat) (r : zl_O) (x : Int × fx_U), zl_g1 n p r → zl_H T a2 tb bs bw n op c (zl_ks b) W w r x → zl_H T a2 tb bs bw n op c (zl_ks b) W w (zl_jl T n sg g f r) x := by
  intro f
  induction f with
  | zero => intro r x _ h; exact h
  | succ f ih =>
    intro r x hr h
    unfold zl_jl
    by_cases t : r.1 = 0 ∧ zz_pk T n r.2.1 = sg
    · have hq := zz_pk_lt (T := T) (n := n) (p := r.2.1) (by omega)
      have b1 := hr.1
      have b2 := hr.2.1 t.1
      rw [if_pos t]
      exact ih _ x (zl_jp_g hg (by omega) hr t.1 (by omega)).1 (zl_jst ha hn hk h2 hG hW h0 t.1 ⟨by omega, hq⟩ (by omega) t.2 h)
    · rw [if_neg t]
      exact h
theorem zl_partR (ha : zl_aq a2 tb bs bw) (hn : n ≤ 240) {g : Int → zl_O} (hG : zl_okG T a2 tb bs bw n op (fun _ => False) 11 g) (hg : zl_gd n g) : zl_okG T a2 tb bs bw n op (zl_ks 0) 12 (zl_part T n g) := by
  intro m p c W w hD h0 h1 hc hcp hWp hW hm
  have hW1 : zl_tw 11 W := by
    obtain ⟨x, R, e, q1, q2⟩ := hW
    exact ⟨x, R, e, by omega, q2⟩
  exact zl_jlR ha hn (b := 0) (k := 11) (sg := 38) (Or.inl ⟨rfl, rfl, rfl⟩) (fun z hz => hz.elim) hG hg hW hc hcp 241 (g p) _ (hg p h0 h1) ((hG m p c W w hD h0 h1 hc hcp hWp hW1 hm).ks (fun z hz => hz.elim))
theorem zl_partsR (ha : zl_aq a2 tb bs bw) (hn : n ≤ 240) {g : Int → zl_O} (hG : zl_okG T a2 tb bs bw n op (fun _ => False) 11 g) (hg : zl_gd n g) : zl_okG T a2 tb bs bw n op (zl_ks 1) 13 (zl_parts T n g) := by
  intro m p c W w hD h0 h1 hc hcp hWp hW hm
  have hW1 : zl_tw 12 W := by
    obtain ⟨x, R, e, q1, q2⟩ := hW
    exact ⟨x, R, e, by omega, q2⟩
  have pR := zl_partR ha hn hG hg
  have pg := zl_part_g (T := T) hg
  exact zl_jlR ha hn (b := 1) (k := 12) (sg := 124) (Or.inr ⟨rfl, rfl, rfl⟩) (fun z hz => hz.elim Or.inl (fun q => absurd q.1 (by decide))) pR pg hW hc hcp 241 (zl_part T n g p) _ (pg p h0 h1) ((pR m p c W w hD h0 h1 hc hcp hWp hW1 hm).ks (fun z hz => hz.elim Or.inl (fun q => absurd q.1 (by decide))))
/-- what a C's parts end ahead of -/
theorem zl_jl_en {F : Int → zl_O} {b s : Int} (hs : s ≠ -1) (h : zl_gd n F) (h0 : 0 ≤ b) : ∀ (f : Nat) (r : zl_O), zl_g1 n b r → n - r.2.1 < (f : Int) → (zl_jl T n s F f r).1 = 0 → zz_pk T n (zl_jl T n s F f r).2.1 ≠ s := by
  intro f
  induction f with
  | zero => intro r hr h1; have := hr.1; omega
  | succ f ih =>
    intro r hr h1
    unfold zl_jl
    by_cases g : r.1 = 0 ∧ zz_pk T n r.2.1 = s
    · have z := zl_jp_g (T := T) h h0 hr g.1 (by omega)
      rw [if_pos g]
      exact ih _ z.1 (by have := z.2; omega)
    · rw [if_neg g]
      exact fun r0 t => g ⟨r0, t⟩
theorem zl_jl_en2 {F : Int → zl_O} {b s s2 : Int} (hs : s ≠ -1) (h : zl_gd n F) (hF : ∀ p, 0 ≤ p → p ≤ n → (F p).1 = 0 → zz_pk T n (F p).2.1 ≠ s2) (h0 : 0 ≤ b) : ∀ (f : Nat) (r : zl_O), zl_g1 n b r → (r.1 = 0 → zz_pk T n r.2.1 ≠ s2) → (zl_jl T n s F f r).1 = 0 → zz_pk T n (zl_jl T n s F f r).2.1 ≠ s2 := by
  intro f
  induction f with
  | zero => intro r _ h2; exact h2
  | succ f ih =>
    intro r hr h2
    unfold zl_jl
    by_cases g : r.1 = 0 ∧ zz_pk T n r.2.1 = s
    · have hp := zz_pk_lt (T := T) (n := n) (p := r.2.1) (by omega)
      have z := zl_jp_g (T := T) h h0 hr g.1 (by omega)
      have hb := hr.1
      rw [if_pos g]
      refine ih _ z.1 (fun z0 => ?_)
      unfold zl_jp at z0 ⊢
      by_cases q : (F (r.2.1 + 1)).1 = 0
      · rw [if_pos q]
        exact hF (r.2.1 + 1) (by omega) (by omega) q
      · rw [if_neg q] at z0
        exact absurd z0 q
    · rw [if_neg g]
      exact h2
theorem zl_parts_en (hn : n ≤ 240) {F : Int → zl_O} (h : zl_gd n F) (h0 : 0 ≤ p) (h1 : p ≤ n) (e : (zl_parts T n F p).1 = 0) : zz_pk T n (zl_parts T n F p).2.1 ≠ 38 ∧ zz_pk T n (zl_parts T n F p).2.1 ≠ 124 := by
  have pg := zl_part_g (T := T) h
  have pe : ∀ p, 0 ≤ p → p ≤ n → (zl_part T n F p).1 = 0 → zz_pk T n (zl_part T n F p).2.1 ≠ 38 := fun p h0 h1 => zl_jl_en (by decide) h h0 241 (F p) (h p h0 h1) (by have := (h p h0 h1).1; omega)
  exact ⟨zl_jl_en2 (by decide) pg pe h0 241 _ (pg p h0 h1) (pe p h0 h1) e, zl_jl_en (by decide) pg h0 241 _ (pg p h0 h1) (by have := (pg p h0 h1).1; omega) e⟩
/-- a ) -/
theorem zl_cl (ha : zl_aq a2 tb bs bw) (hn : n ≤ 240) {V : List (Int × Int)} {r : zl_O} {x : Int × fx_U} (ho : 0 ≤ op ∧ op ≤ 5) (h0 : 0 ≤ c) (r0 : r.1 = 0) (rp : 0 ≤ r.2.1 ∧ r.2.1 < n) (rc : c + (r.2.2.length : Int) ≤ r.2.1) (hs : zz_pk T n r.2.1 = 41) (h : zl_H T a2 tb bs bw n (op + 1) c (zl_ks 1) ((13, 0) :: V) w r x) :
    ∃ (m F : Nat) (y : fx_U), 260 - r.2.1 < (m : Int) ∧ 260 - (r.2.1 + 1) < (F : Int) ∧ zl_D T a2 tb bs bw n (r.2.1 + 1) op (c + (r.2.2.length : Int)) V y ∧ ((V.length : Int) ≤ r.2.1) ∧ zl_ce bs y c r.2.2 ∧ zl_eq a2 bs bw c w y ∧ x = if (V.length : Int) = 0 then (1, y) else kL_X12_readsCondition_92 a2 (kL_X12_readsCondition_40 a2 m) F (f_X12_endsPiece y a2) (f_X12_endsPiece y a2 a2 10) (f_X12_endsPiece y a2 a2 11) (r.2.1 + 1) := by
  rcases h with ⟨q, -⟩ | ⟨-, m, f, v, J, hx, ⟨hm, hf⟩, hD, hJW, hJ, hpw, hjw, hce, hE⟩
  · exact absurd r0 q
  · obtain ⟨F, rfl⟩ : ∃ F : Nat, f = F + 1 := ⟨f - 1, by omega⟩
    obtain ⟨t, ht⟩ : ∃ t : Int, t = c + (r.2.2.length : Int) := ⟨_, rfl⟩
    rw [← ht] at hD hjw hce ⊢
    have hh := zl_hr hD rp.1
    have lan := zl_land ha (b := 1) (pq := r.2.1) (lo := c) (t := t) (W := ((13 : Int), (0 : Int)) :: V) (Or.inr rfl) ⟨by omega, by omega⟩ (fun x R z => by
      cases z
      show ¬ ((13 : Int) = 11 ∨ ((1 : Int) = 1 ∧ (13 : Int) = 12))
      decide) h0 J ((J ++ ((13 : Int), (0 : Int)) :: V).length + 1) ((J ++ ((13 : Int), (0 : Int)) :: V).length : Int) v hJ (by rw [List.length_append]; omega) rfl hjw hpw hD
    rw [← zl_lan hD] at lan
    obtain ⟨y, hy⟩ : ∃ y : fx_U, y = f_X12_lands v a2 1 := ⟨_, rfl⟩
    rw [← hy] at lan
    obtain ⟨l1, l2, l3⟩ := lan
    have lv : ((((13 : Int), (0 : Int)) :: V).length : Int) = (V.length : Int) + 1 := by
      rw [List.length_cons]
      omega
    have lJ : (J ++ ((13 : Int), (0 : Int)) :: V).length = J.length + (V.length + 1) := by
      rw [List.length_append, List.length_cons]
    obtain ⟨d4, d5⟩ := zl_pop ha (x := (13, 0)) (R := V) (r := ((((13 : Int), (0 : Int)) :: V).length : Int) - 1) l1 (by omega)
    obtain ⟨d6, d7⟩ := zl_opn ha (x := op) d4
    obtain ⟨d8, d9⟩ := zl_at ha (x := r.2.1 + 1) d6
    have eS : fx_b_sub (op + 1) 1 = op := by
      rw [zz_wsub (zz_sml ⟨by omega, by omega⟩) (zz_sml ⟨by decide, by decide⟩) (zz_sml ⟨by omega, by omega⟩)]
      omega
    refine ⟨m, F, _, hm, by omega, d8, by omega, ?_, hE.tr (l3.tr (d5.tr (d7.tr d9 (by omega)) (by omega)) (by omega)) (Int.le_refl c), ?_⟩
    · exact zl_ce_keep (e := t) (fun i _ => (zz_pa ha.2.2.1.1).trans ((zz_pa ha.2.2.1.1).trans ((zz_pa ha.2.2.1.1).trans (l2 i)))) r.2.2 c h0 (by omega) hce
    · have eK : zl_BB a2 m (F + 1) v = kB_X12_readsCondition_92 (kL_X12_readsCondition_92 a2 (kL_X12_readsCondition_40 a2 m) F) a2 (kL_X12_readsCondition_40 a2 m) v (v a2 10) (v a2 11) (v a2 5) := rfl
      rw [hx, eK]
      unfold kB_X12_readsCondition_92
      by_cases z : (V.length : Int) = 0
      · have z2 : ((((13 : Int), (0 : Int)) :: V).length : Int) - 1 = 0 := by omega
        rw [if_pos z]
        simp only [fz_lt, fz_ls, hh, if_pos hs, ← hy, l1.2.1.2.2.2, if_pos z2, d4.2.1.2.1, eS, hD.2.1.1]
      · have z2 : ¬ (((((13 : Int), (0 : Int)) :: V).length : Int) - 1 = 0) := by omega
        rw [if_neg z]
        simp only [fz_lt, fz_ls, hh, if_pos hs, ← hy, l1.2.1.2.2.2, if_neg z2, d4.2.1.2.1, eS, hD.2.1.1]
/-- no ) where one must stand -/
theorem zl_ncl (ha : zl_aq a2 tb bs bw) (hn : n ≤ 240) {ks : Int → Prop} {r : zl_O} {x : Int × fx_U} (r0 : r.1 = 0) (rp : 0 ≤ r.2.1 ∧ r.2.1 ≤ n) (hs : zz_pk T n r.2.1 ≠ 41) (hs2 : zz_pk T n r.2.1 ≠ 38 ∧ zz_pk T n r.2.1 ≠ 124) (h : zl_H T a2 tb bs bw n op c ks W w r x) : ∃ y : fx_U, x = (0, y) ∧ y a2 7 = zz_ft 1 r.2.1 ∧ zl_eq a2 bs bw c w y := by
  rcases h with ⟨q, -⟩ | ⟨-, m, f, v, J, hx, ⟨hm, hf⟩, hD, hJW, hJ, hpw, hjw, hce, hE⟩
  · exact absurd r0 q
  · obtain ⟨F, rfl⟩ : ∃ F : Nat, f = F + 1 := ⟨f - 1, by omega⟩
    have hh := zl_hr hD rp.1
    have eK : zl_BB a2 m (F + 1) v = kB_X12_readsCondition_92 (kL_X12_readsCondition_92 a2 (kL_X12_readsCondition_40 a2 m) F) a2 (kL_X12_readsCondition_40 a2 m) v (v a2 10) (v a2 11) (v a2 5) := rfl
    refine ⟨fx_pt v a2 7 (zz_ft 1 r.2.1), ?_, zz_ps, hE.tr (zl_eq.pt ha (by decide)) (Int.le_refl c)⟩
    rw [hx, eK]
    unfold kB_X12_readsCondition_92
    simp only [fz_lt, fz_lc, hh, if_neg hs, if_neg hs2.1, if_neg hs2.2, zz_wrong, hD.2.1.1]
theorem zl_opens5 {k : Int} (hD : zl_D T a2 tb bs bw n p op c W w) (ho : op = 6) : f_X12_opens w a2 k = (0, fx_pt w a2 7 (zz_ft 5 p)) := by
  unfold f_X12_opens
  simp only [fz_lt, fz_lr, fz_lc, hD.2.1.1, hD.2.1.2.1, zz_wrong]
  rw [if_pos ho]
theorem zl_opensR (ha : zl_aq a2 tb bs bw) {k : Int} (hD : zl_D T a2 tb bs bw n p op c W w) (ho : 0 ≤ op ∧ op ≤ 5) : ∃ w1 : fx_U, f_X12_opens w a2 k = (1, w1) ∧ zl_D T a2 tb bs bw n (p + 1) (op + 1) c ((k, 0) :: W) w1 ∧ zl_eq a2 bs bw c w w1 := by
  obtain ⟨d1, e1⟩ := zl_opn ha (x := op + 1) hD
  obtain ⟨d2, e2⟩ := zl_push ha (k := k) (b := 0) (by decide) d1
  obtain ⟨d3, e3⟩ := zl_at ha (x := p + 1) d2
  refine ⟨_, ?_, d3, e1.tr (e2.tr e3 (Int.le_refl c)) (Int.le_refl c)⟩
  unfold f_X12_opens
  simp only [fz_lt, fz_lr, fz_ls, hD.1.2.2.2, hD.2.1.1, hD.2.1.2.1, hD.2.1.2.2.2, Int.toNat_natCast]
  rw [if_neg (by omega), zz_wadd (zz_sml ⟨by omega, by omega⟩) (zz_sml ⟨by decide, by decide⟩) (zz_sml ⟨by omega, by omega⟩), Int.add_zero]
theorem zl_AA1 {w1 : fx_U} {k : Int} {M : Nat} (hD : zl_D T a2 tb bs bw n p op c W w) (h0 : 0 ≤ p) (hk : (zz_pk T n p = 33 ∧ k = 10) ∨ (zz_pk T n p = 40 ∧ k = 13)) (eo : f_X12_opens w a2 k = (1, w1)) (h1 : w1 a2 10 = c) : zl_AA a2 (M + 1) w = zl_AA a2 M w1 := by
  have eK : zl_AA a2 (M + 1) w = kB_X12_readsCondition_40 (kL_X12_readsCondition_40 a2 M) a2 w (w a2 10) (w a2 11) (w a2 5) := rfl
  have e75 : kJ_X12_readsCondition_75 w a2 (kL_X12_readsCondition_40 a2 M) (w a2 10) k = zl_AA a2 M w1 := by
    unfold kJ_X12_readsCondition_75 zl_AA
    simp only [fz_lt, fz_lc, eo, if_neg zz_n10, hD.2.1.2.2.1, h1]
  have e58 : kJ_X12_readsCondition_58 w a2 (kL_X12_readsCondition_40 a2 M) (w a2 10) = zl_AA a2 M w1 := by
    unfold kJ_X12_readsCondition_58
    simp only [fz_lt, zl_hr hD h0]
    rcases hk with ⟨q1, q2⟩ | ⟨q1, q2⟩
    · rw [if_pos q1, ← q2]
      exact e75
    · rw [if_neg (by omega), ← q2]
      exact e75
  rw [eK]
  unfold kB_X12_readsCondition_40
  simp only [fz_lt, zl_hr hD h0, e58]
  rcases hk with ⟨q1, q2⟩ | ⟨q1, q2⟩
  · rw [if_pos q1]
  · rw [if_neg (by omega), if_pos q1]
theorem zl_AA0 {y : fx_U} {k : Int} {M : Nat} (hD : zl_D T a2 tb bs bw n p op c W w) (h0 : 0 ≤ p) (hk : (zz_pk T n p = 33 ∧ k = 10) ∨ (zz_pk T n p = 40 ∧ k = 13)) (eo : f_X12_opens w a2 k = (0, y)) : zl_AA a2 (M + 1) w = (0, y) := by
  have eK : zl_AA a2 (M + 1) w = kB_X12_readsCondition_40 (kL_X12_readsCondition_40 a2 M) a2 w (w a2 10) (w a2 11) (w a2 5) := rfl
  have e75 : kJ_X12_readsCondition_75 w a2 (kL_X12_readsCondition_40 a2 M) (w a2 10) k = (0, y) := by
    unfold kJ_X12_readsCondition_75
    simp only [fz_lt, fz_lc, eo, if_true]
  have e58 : kJ_X12_readsCondition_58 w a2 (kL_X12_readsCondition_40 a2 M) (w a2 10) = (0, y) := by
    unfold kJ_X12_readsCondition_58
    simp only [fz_lt, zl_hr hD h0]
    rcases hk with ⟨q1, q2⟩ | ⟨q1, q2⟩
    · rw [if_pos q1, ← q2]
      exact e75
    · rw [if_neg (by omega), ← q2]
      exact e75
  rw [eK]
  unfold kB_X12_readsCondition_40
  simp only [fz_lt, zl_hr hD h0, e58]
  rcases hk with ⟨q1, q2⟩ | ⟨q1, q2⟩
  · rw [if_pos q1]
  · rw [if_neg (by omega), if_pos q1]
theorem zl_nk_1 {k : Nat} {r : zl_O} (h : r.1 = 0) : (zl_nk k r).1 = 0 ∧ (zl_nk k r).2.1 = r.2.1 ∧ (zl_nk k r).2.2 = r.2.2 ++ List.replicate k (33, 0) := by
  unfold zl_nk
  rw [if_pos h]
  exact ⟨rfl, rfl, rfl⟩
theorem zl_nk_0 {k : Nat} {r : zl_O} (h : r.1 ≠ 0) : zl_nk k r = r := by
  unfold zl_nk
  rw [if_neg h]
theorem zl_nk_nt {k : Nat} {r : zl_O} : zl_nk k (zl_nt r) = zl_nk (k + 1) r := by
  unfold zl_nk zl_nt
  by_cases h : r.1 = 0
  · rw [if_pos h, if_pos h]
    show (if (0 : Int) = 0 then ((0 : Int), r.2.1, (r.2.2 ++ [(33, 0)]) ++ List.replicate k (33, 0)) else _) = _
    rw [if_pos rfl, List.append_assoc, List.replicate_succ]
    rfl
  · rw [if_neg h, if_neg h, if_neg h]
def zl_okN (T : Nat → Int) (a2 tb bs bw : Nat) (n : Int) (d : Nat) : Prop := ∀ (m : Nat) (p c : Int) (N W : List (Int × Int)) (w : fx_U), (∀ z ∈ N, z.1 = 10) → zl_D T a2 tb bs bw n p (6 - (d : Int)) c (N ++ W) w → 0 ≤ p → p ≤ n → 0 ≤ c → c ≤ p → ((N ++ W).length : Int) ≤ p → (N.length : Int) ≤ 6 - (d : Int) → zl_tw 11 W → 260 - p < (m : Int) → zl_H T a2 tb bs bw n (6 - (d : Int) - (N.length : Int)) c (fun _ => False) W w (zl_nk N.length (zl_P T n d p)) (zl_AA a2 m w)
theorem zl_okN.G {d : Nat} (h : zl_okN T a2 tb bs bw n d) (hd : d ≤ 6) : zl_okG T a2 tb bs bw n (6 - (d : Int)) (fun _ => False) 11 (zl_P T n d) := by
  intro m p c V w hD h0 h1 hc hcp hWp hV hm
  have z := h m p c [] V w (fun z hz => by cases hz) hD h0 h1 hc hcp hWp (by show ((0 : Nat) : Int) ≤ 6 - (d : Int); omega) hV hm
  have e0 : zl_nk ([] : List (Int × Int)).length (zl_P T n d p) = zl_P T n d p := by
    by_cases q : (zl_P T n d p).1 = 0
    · have := zl_nk_1 (k := ([] : List (Int × Int)).length) q
      refine Prod.ext (this.1.trans q.symm) (Prod.ext this.2.1 ?_)
      rw [this.2.2]
      show (zl_P T n d p).2.2 ++ [] = _
      rw [List.append_nil]
    · exact zl_nk_0 q
  have e1 : (6 : Int) - (d : Int) - ((([] : List (Int × Int)).length : Nat) : Int) = 6 - (d : Int) := by
    show (6 : Int) - (d : Int) - ((0 : Nat) : Int) = 6 - (d : Int)
    omega
  rw [e0, e1] at z
  exact z
theorem zl_cmP (ha : zl_aq a2 tb bs bw) (hn : n ≤ 240) {d M : Nat} (hd : d ≤ 6) {N : List (Int × Int)} (hN : ∀ z ∈ N, z.1 = 10) (hD : zl_D T a2 tb bs bw n p (6 - (d : Int)) c (N ++ W) w) (h0 : 0 ≤ p) (h1 : p ≤ n) (hc : 0 ≤ c) (hWp : ((N ++ W).length : Int) ≤ p) (hNo : (N.length : Int) ≤ 6 - (d : Int)) (hW : zl_tw 11 W) (hm : 260 - p < ((M + 1 : Nat) : Int)) (g1 : zz_pk T n p ≠ 33) (g2 : zz_pk T n p ≠ 40) : zl_H T a2 tb bs bw n (6 - (d : Int) - (N.length : Int)) c (fun _ => False) W w (zl_nk N.length (zl_cm T n (zl_S T n d) p)) (zl_AA a2 (M + 1) w) := by
  have hW1 : zl_ntk 10 W := by
    obtain ⟨x, R, e, q1, q2⟩ := hW
    intro y Q z
    rw [e] at z
    injection z with z1 z2
    rw [← z1]
    omega
  have hW2 : zl_nt2 2 (N ++ W) := by
    intro y Q z
    cases N with
    | nil =>
      obtain ⟨x, R, e, q1, q2⟩ := hW
      rw [List.nil_append, e] at z
      injection z with z1 z2
      rw [← z1]
      omega
    | cons x R =>
      have hx := hN x (List.mem_cons_self ..)
      rw [List.cons_append] at z
      injection z with z1 z2
      rw [← z1]
      omega
  have lNW : (N ++ W).length = N.length + W.length := List.length_append
  have cg := zl_cm_g (T := T) (zl_S_g (T := T) (n := n) d) p h0 h1
  have eK : zl_AA a2 (M + 1) w = kB_X12_readsCondition_40 (kL_X12_readsCondition_40 a2 M) a2 w (w a2 10) (w a2 11) (w a2 5) := rfl
  rcases zl_cmR ha hn hd rfl hN hNo hW1 hW2 hD h0 h1 hc hWp with ⟨a1, y, a3, a4, a5⟩ | ⟨a1, y, a3, a4, a5, a6⟩
  · have e : zl_AA a2 (M + 1) w = (0, y) := by
      rw [eK]
      unfold kB_X12_readsCondition_40
      simp only [fz_lt, fz_lc, zl_hr hD h0, if_neg g1, if_neg g2, a3, if_true]
    rw [e, zl_nk_0 a1]
    exact Or.inl ⟨a1, rfl, a4, a5⟩
  · have e : zl_AA a2 (M + 1) w = zl_BB a2 M (Int.toNat (260 - y a2 5) + 1) y := by
      rw [eK]
      unfold kB_X12_readsCondition_40 zl_BB
      simp only [fz_lt, fz_lc, zl_hr hD h0, if_neg g1, if_neg g2, a3, if_neg zz_n10]
    obtain ⟨n1, n2, n3⟩ := zl_nk_1 (k := N.length) a1
    obtain ⟨b1, b2⟩ := cg.2.1 a1
    have b3 := cg.1
    have y5 : y a2 5 = (zl_cm T n (zl_S T n d) p).2.1 := a4.2.1.1
    rw [e]
    refine Or.inr ⟨n1, M, _, y, [], rfl, ⟨?_, ?_⟩, ?_, ?_, fun z hz => (by cases hz), List.Pairwise.nil, fun z hz => (by cases hz), a5, a6⟩
    · rw [n2]
      omega
    · rw [n2, y5]
      omega
    · rw [n2]
      exact a4
    · rw [n2]
      show ((W.length : Nat) : Int) ≤ (zl_cm T n (zl_S T n d) p).2.1
      omega
/-- a piece -/
theorem zl_PR (ha : zl_aq a2 tb bs bw) (hn : n ≤ 240) : ∀ d : Nat, d ≤ 6 → zl_okN T a2 tb bs bw n d := by
  intro d
  induction d with
  | zero =>
    intro hd m p c N W w hN hD h0 h1 hc hcp hWp hNo hW hm
    obtain ⟨M, rfl⟩ : ∃ M : Nat, m = M + 1 := ⟨m - 1, by omega⟩
    by_cases g1 : zz_pk T n p = 33
    · have eP : zl_P T n 0 p = (5, p, []) := by
        unfold zl_P zl_pc1
        rw [if_pos g1, if_neg (by decide)]
      have n5 : (zl_P T n 0 p).1 ≠ 0 := by
        rw [eP]
        exact (show ¬ ((5 : Int) = 0) by decide)
      rw [zl_nk_0 n5, eP, zl_AA0 hD h0 (Or.inl ⟨g1, rfl⟩) (zl_opens5 hD rfl)]
      exact Or.inl ⟨(show ¬ ((5 : Int) = 0) by decide), rfl, zz_ps, zl_eq.pt ha (by decide)⟩
    · by_cases g2 : zz_pk T n p = 40
      · have eP : zl_P T n 0 p = (5, p, []) := by
          unfold zl_P zl_pc1
          rw [if_neg g1, if_pos g2, if_neg (by decide)]
        have n5 : (zl_P T n 0 p).1 ≠ 0 := by
          rw [eP]
          exact (show ¬ ((5 : Int) = 0) by decide)
        rw [zl_nk_0 n5, eP, zl_AA0 hD h0 (Or.inr ⟨g2, rfl⟩) (zl_opens5 hD rfl)]
        exact Or.inl ⟨(show ¬ ((5 : Int) = 0) by decide), rfl, zz_ps, zl_eq.pt ha (by decide)⟩
      · have eP : zl_P T n 0 p = zl_cm T n (zl_S T n 0) p := by
          unfold zl_P zl_pc1
          rw [if_neg g1, if_neg g2]
        rw [eP]
        exact zl_cmP ha hn hd hN hD h0 h1 hc hWp hNo hW hm g1 g2
  | succ d ih =>
    intro hd m p c N W w hN hD h0 h1 hc hcp hWp hNo hW hm
    have ih2 := ih (by omega)
    obtain ⟨M, rfl⟩ : ∃ M : Nat, m = M + 1 := ⟨m - 1, by omega⟩
    have lNW : (N ++ W).length = N.length + W.length := List.length_append
    have od : (6 : Int) - ((d + 1 : Nat) : Int) + 1 = 6 - (d : Int) := by omega
    have ePd : zl_P T n (d + 1) p = zl_pc1 T n (zl_P T n d) (zl_parts T n (zl_P T n d)) (zl_S T n (d + 1)) true p := rfl
    by_cases g1 : zz_pk T n p = 33
    · have hp := zz_pk_lt (T := T) (n := n) (p := p) (by omega)
      obtain ⟨w1, e1, e2, e3⟩ := zl_opensR ha (k := 10) hD ⟨by omega, by omega⟩
      have eP : zl_P T n (d + 1) p = zl_nt (zl_P T n d (p + 1)) := by
        rw [ePd]
        unfold zl_pc1
        rw [if_pos g1, if_pos rfl]
      rw [od] at e2
      have res := ih2 M (p + 1) c ((10, 0) :: N) W w1 (fun z hz => by
        rcases List.mem_cons.mp hz with q | q
        · rw [q]
        · exact hN z q) e2 (by omega) (by omega) hc (by omega) (by
          show (((N ++ W).length + 1 : Nat) : Int) ≤ p + 1
          omega) (by
          rw [List.length_cons]
          omega) hW (by omega)
      rw [eP, zl_nk_nt, zl_AA1 hD h0 (Or.inl ⟨g1, rfl⟩) e1 e2.2.1.2.2.1]
      rw [List.length_cons, show (6 : Int) - (d : Int) - ((N.length + 1 : Nat) : Int) = 6 - ((d + 1 : Nat) : Int) - (N.length : Int) by omega] at res
      exact res.fr e3
    · by_cases g2 : zz_pk T n p = 40
      · have hp := zz_pk_lt (T := T) (n := n) (p := p) (by omega)
        obtain ⟨w1, e1, e2, e3⟩ := zl_opensR ha (k := 13) hD ⟨by omega, by omega⟩
        have eP : zl_P T n (d + 1) p = zl_ex T n 41 (zl_parts T n (zl_P T n d) (p + 1)) := by
          rw [ePd]
          unfold zl_pc1
          rw [if_neg g1, if_pos g2, if_pos rfl]
        have gG := ih2.G (by omega)
        have lW : (((13 : Int), (0 : Int)) :: (N ++ W)).length = (N ++ W).length + 1 := rfl
        have pg := zl_parts_g (T := T) (zl_P_g (T := T) (n := n) d)
        have g := pg (p + 1) (by omega) (by omega)
        rw [od] at e2
        have res := zl_partsR ha hn gG (zl_P_g d) M (p + 1) c ((13, 0) :: (N ++ W)) w1 e2 (by omega) (by omega) hc (by omega) (by omega) ⟨(13, 0), N ++ W, rfl, Int.le_refl 13, Int.le_refl 13⟩ (by omega)
        rw [eP, zl_AA1 hD h0 (Or.inr ⟨g2, rfl⟩) e1 e2.2.1.2.2.1]
        obtain ⟨r, hr⟩ : ∃ r : zl_O, r = zl_parts T n (zl_P T n d) (p + 1) := ⟨_, rfl⟩
        have en := zl_parts_en (T := T) (p := p + 1) hn (zl_P_g (T := T) (n := n) d) (by omega) (by omega)
        rw [← hr] at res g en ⊢
        obtain ⟨⟨b1, b2⟩, b3, b4⟩ := g
        unfold zl_ex
        by_cases r0 : r.1 = 0
        · obtain ⟨b5, b6⟩ := b3 r0
          rw [if_pos r0]
          by_cases s : zz_pk T n r.2.1 = 41
          · have hq := zz_pk_lt (T := T) (n := n) (p := r.2.1) (by omega)
            rw [← od] at res
            obtain ⟨m, F, y, c1, c2, c3, c4, c5, c6, c7⟩ := zl_cl ha hn ⟨by omega, by omega⟩ hc r0 ⟨by omega, hq⟩ (by omega) s res
            have hW1 : zl_ntk 10 W := by
              obtain ⟨x, R, e, q1, q2⟩ := hW
              intro y Q z
              rw [e] at z
              injection z with z1 z2
              rw [← z1]
              omega
            have lWp : 1 ≤ W.length := by
              obtain ⟨x, R, e, -⟩ := hW
              rw [e, List.length_cons]
              omega
            obtain ⟨q1, q2, q3⟩ := zl_endsP ha hW1 hN (by omega) ⟨hNo, by omega⟩ c3
            rw [if_neg (by omega)] at c7
            rw [if_pos s]
            have lR : c + ((r.2.2 ++ List.replicate N.length ((33 : Int), (0 : Int))).length : Int) = c + (r.2.2.length : Int) + (N.length : Int) := by
              rw [List.length_append, List.length_replicate]
              omega
            refine Or.inr ⟨rfl, m, F, f_X12_endsPiece y a2, [], ?_, ⟨?_, ?_⟩, ?_, ?_, fun z hz => (by cases hz), List.Pairwise.nil, fun z hz => (by cases hz), ?_, e3.tr (c6.tr q2 (by omega)) (Int.le_refl c)⟩
            · rw [c7]
              unfold zl_BB
              rw [q1.2.1.1]
            · show 260 - (r.2.1 + 1) < (m : Int)
              omega
            · show 260 - (r.2.1 + 1) < (F : Int)
              exact c2
            · show zl_D T a2 tb bs bw n (r.2.1 + 1) (6 - ((d + 1 : Nat) : Int) - (N.length : Int)) (c + ((r.2.2 ++ List.replicate N.length ((33 : Int), (0 : Int))).length : Int)) W (f_X12_endsPiece y a2)
              rw [lR]
              exact q1
            · show ((W.length : Nat) : Int) ≤ r.2.1 + 1
              omega
            · show zl_ce bs (f_X12_endsPiece y a2) c (r.2.2 ++ List.replicate N.length ((33 : Int), (0 : Int)))
              exact zl_ce_app _ _ c (zl_ce_keep q2.2.2 _ c hc (Int.le_refl _) c5) q3
          · obtain ⟨y, c1, c2, c3⟩ := zl_ncl ha hn r0 ⟨by omega, b2⟩ s (en r0) res
            rw [if_neg s, c1]
            have n1 : ((1 : Int), r.2.1, ([] : List (Int × Int))).1 ≠ 0 := (show ¬ ((1 : Int) = 0) by decide)
            rw [zl_nk_0 n1]
            exact Or.inl ⟨n1, rfl, c2, e3.tr c3 (Int.le_refl c)⟩
        · rw [if_neg r0, zl_nk_0 r0]
          rcases res with ⟨a1, a2', a3, a4⟩ | ⟨a1, -⟩
          · exact Or.inl ⟨a1, a2', a3, e3.tr a4 (Int.le_refl c)⟩
          · exact absurd a1 r0
      · have eP : zl_P T n (d + 1) p = zl_cm T n (zl_S T n (d + 1)) p := by
          rw [ePd]
          unfold zl_pc1
          rw [if_neg g1, if_neg g2]
        rw [eP]
        exact zl_cmP ha hn hd hN hD h0 h1 hc hWp hNo hW hm g1 g2
end LawZ
