/-! THE LAW'S TEXT in the reference: a C. What waits there: 13 a (, 10 a !, 11 a &, 12 a | -/
def zl_AA (a2 : Nat) (m : Nat) (w : fx_U) : Int × fx_U := kL_X12_readsCondition_40 a2 m w (w a2 10) (w a2 11) (w a2 5)
def zl_BB (a2 : Nat) (m f : Nat) (w : fx_U) : Int × fx_U := kL_X12_readsCondition_92 a2 (kL_X12_readsCondition_40 a2 m) f w (w a2 10) (w a2 11) (w a2 5)
/-- jumps that wait lead to a place -/
def zl_pa (bs : Nat) (t : Int) : List (Int × Int) → fx_U → fx_U
  | [], w => w
  | x :: J, w => zl_pa bs t J (fx_pt w bs x.2.toNat (1048576 * x.1 + t))
def zl_jw (bs : Nat) (w : fx_U) (lo hi : Int) (J : List (Int × Int)) : Prop := ∀ x ∈ J, (lo ≤ x.2 ∧ x.2 < hi) ∧ w bs x.2.toNat = 1048576 * x.1
/-- behind a piece of a C: jumps of given kinds still wait -/
def zl_H (T : Nat → Int) (a2 tb bs bw : Nat) (n op c : Int) (ks : Int → Prop) (W : List (Int × Int)) (w : fx_U) (r : zl_O) (x : Int × fx_U) : Prop :=
  (r.1 ≠ 0 ∧ x.1 = 0 ∧ x.2 a2 7 = zz_ft r.1 r.2.1 ∧ zl_eq a2 bs bw c w x.2) ∨
  (r.1 = 0 ∧ ∃ (m f : Nat) (v : fx_U) (J : List (Int × Int)), x = zl_BB a2 m f v ∧ (260 - r.2.1 < (m : Int) ∧ 260 - r.2.1 < (f : Int)) ∧ zl_D T a2 tb bs bw n r.2.1 op (c + (r.2.2.length : Int)) (J ++ W) v ∧ ((J ++ W).length : Int) ≤ r.2.1 ∧ (∀ z ∈ J, ks z.1) ∧ J.Pairwise (fun a b => a.2.toNat ≠ b.2.toNat) ∧ zl_jw bs v c (c + (r.2.2.length : Int)) J ∧ zl_ce bs (zl_pa bs (c + (r.2.2.length : Int)) J v) c r.2.2 ∧ zl_eq a2 bs bw c w v)
def zl_ntk (k : Int) (W : List (Int × Int)) : Prop := ∀ x R, W = x :: R → x.1 ≠ k
section LawX
variable {T : Nat → Int} {a2 tb bs bw : Nat} {n p c op t : Int} {W : List (Int × Int)} {w v : fx_U}
theorem zl_pa_o {b : Nat} (hb : b ≠ bs) : ∀ (J : List (Int × Int)) (w : fx_U) (i : Nat), zl_pa bs t J w b i = w b i
  | [], _, _ => rfl
  | x :: J, w, i => (zl_pa_o hb J _ i).trans (zz_pa hb)
theorem zl_pa_i {i : Nat} : ∀ (J : List (Int × Int)) (w : fx_U), (∀ x ∈ J, x.2.toNat ≠ i) → zl_pa bs t J w bs i = w bs i
  | [], _, _ => rfl
  | x :: J, w, h => (zl_pa_i J _ (fun y hy => h y (List.mem_cons_of_mem x hy))).trans (zz_pj (Ne.symm (h x (List.mem_cons_self ..))))
/-- the jumps that wait land -/
theorem zl_land (ha : zl_aq a2 tb bs bw) {b pq lo : Int} (hb : b = 0 ∨ b = 1) (ht : 0 ≤ t ∧ t < 1048576) (hW : ∀ x R, W = x :: R → ¬ (x.1 = 11 ∨ (b = 1 ∧ x.1 = 12))) (h0 : 0 ≤ lo) :
    ∀ (J : List (Int × Int)) (f : Nat) (wq : Int) (w : fx_U), (∀ x ∈ J, x.1 = 11 ∨ (b = 1 ∧ x.1 = 12)) → J.length < f → wq = ((J ++ W).length : Int) → zl_jw bs w lo t J → J.Pairwise (fun x y => x.2.toNat ≠ y.2.toNat) → zl_D T a2 tb bs bw n p op t (J ++ W) w → zl_D T a2 tb bs bw n p op t W (kL_X12_lands_0 a2 bw bs t pq b f w t wq pq) ∧ (∀ i, kL_X12_lands_0 a2 bw bs t pq b f w t wq pq bs i = zl_pa bs t J w bs i) ∧ zl_eq a2 bs bw lo w (kL_X12_lands_0 a2 bw bs t pq b f w t wq pq) := by
  intro J
  induction J with
  | nil =>
    intro f wq w _ hf hw _ _ hD
    obtain ⟨g, rfl⟩ : ∃ g : Nat, f = g + 1 := ⟨f - 1, by omega⟩
    have eK : kL_X12_lands_0 a2 bw bs t pq b (g + 1) w t wq pq = kB_X12_lands_0 (kL_X12_lands_0 a2 bw bs t pq b g) a2 bw bs t pq b w t wq pq := rfl
    have top : ∃ k : Int, f_X12_waitTop w a2 = k ∧ ¬ (k = 11 ∨ (b = 1 ∧ k = 12)) := by
      cases W with
      | nil => exact ⟨-1, zl_top0 hD, by omega⟩
      | cons x R => exact ⟨x.1, zl_top hD, hW x R rfl⟩
    obtain ⟨k, k1, k2⟩ := top
    have e : kL_X12_lands_0 a2 bw bs t pq b (g + 1) w t wq pq = w := by
      rw [eK]
      unfold kB_X12_lands_0
      simp only [fz_lt, k1]
      rw [if_neg (fun z => k2 (Or.inl z))]
      rcases hb with q | q
      · rw [if_pos q]
      · rw [if_neg (by omega), if_neg (fun z => k2 (Or.inr ⟨q, z⟩))]
    rw [e]
    exact ⟨hD, fun _ => rfl, zl_eq.rf⟩
  | cons x J ih =>
    intro f wq w hJ hf hw hj hpw hD
    rw [List.length_cons] at hf
    obtain ⟨g, rfl⟩ : ∃ g : Nat, f = g + 1 := ⟨f - 1, by omega⟩
    have hx := hJ x (List.mem_cons_self ..)
    obtain ⟨⟨x1, x2⟩, x3⟩ := hj x (List.mem_cons_self ..)
    have k1 : f_X12_waitTop w a2 = x.1 := zl_top (R := J ++ W) hD
    have sk : w bw (J ++ W).length = 1048576 * x.1 + x.2 ∧ 0 ≤ x.2 ∧ x.2 < 1048576 := hD.2.2.1.1
    have eK : kL_X12_lands_0 a2 bw bs t pq b (g + 1) w t wq pq = kB_X12_lands_0 (kL_X12_lands_0 a2 bw bs t pq b g) a2 bw bs t pq b w t wq pq := rfl
    have hw2 : wq - 1 = ((J ++ W).length : Int) := by
      rw [hw]
      show (((J ++ W).length + 1 : Nat) : Int) - 1 = ((J ++ W).length : Int)
      omega
    have e22 : kJ_X12_lands_22 wq w bw bs t a2 (kL_X12_lands_0 a2 bw bs t pq b g) pq = kL_X12_lands_0 a2 bw bs t pq b g (fx_pt (fx_pt w bs x.2.toNat (1048576 * x.1 + t)) a2 11 ((J ++ W).length : Int)) t ((J ++ W).length : Int) pq := by
      unfold kJ_X12_lands_22
      simp only [fz_lt, fz_ls, hw2, Int.toNat_natCast]
      rw [sk.1, show (1048576 * x.1 + x.2) % 1048576 = x.2 by omega, x3, show 1048576 * x.1 / 1048576 = x.1 by omega]
    have e : kL_X12_lands_0 a2 bw bs t pq b (g + 1) w t wq pq = kL_X12_lands_0 a2 bw bs t pq b g (fx_pt (fx_pt w bs x.2.toNat (1048576 * x.1 + t)) a2 11 ((J ++ W).length : Int)) t ((J ++ W).length : Int) pq := by
      rw [eK]
      unfold kB_X12_lands_0
      simp only [fz_lt, k1, e22]
      rcases hx with q | ⟨q1, q2⟩
      · rw [if_pos q]
      · rw [if_neg (by omega), if_neg (by omega), if_pos q2]
    have k2 : zl_eq a2 bs bw lo w (fx_pt w bs x.2.toNat (1048576 * x.1 + t)) := zl_eq.sd ha (by omega)
    have d1 : zl_D T a2 tb bs bw n p op t (x :: (J ++ W)) (fx_pt w bs x.2.toNat (1048576 * x.1 + t)) := hD.mv ha k2 ((zz_pa ha.2.1.1).trans hD.2.1.1) ((zz_pa ha.2.1.1).trans hD.2.1.2.1) ((zz_pa ha.2.1.1).trans hD.2.1.2.2.1) ((zz_pa ha.2.1.1).trans hD.2.1.2.2.2) (zl_sk_keep (x :: (J ++ W)) (fun i _ => zz_pa ha.2.2.2.2) hD.2.2.1)
    obtain ⟨d2, k3⟩ := zl_pop ha (r := ((J ++ W).length : Int)) d1 rfl
    rw [List.pairwise_cons] at hpw
    obtain ⟨i1, i2, i3⟩ := ih g ((J ++ W).length : Int) _ (fun y hy => hJ y (List.mem_cons_of_mem x hy)) (by omega) rfl (fun y hy => by
      obtain ⟨y1, y2⟩ := hj y (List.mem_cons_of_mem x hy)
      refine ⟨y1, ?_⟩
      rw [zz_pa ha.2.2.1.1, zz_pj (Ne.symm (hpw.1 y hy))]
      exact y2) hpw.2 d2
    rw [e]
    refine ⟨i1, fun i => ?_, k2.tr ((zl_eq.pt ha (by decide)).tr i3 (Int.le_refl lo)) (Int.le_refl lo)⟩
    rw [i2 i]
    show zl_pa bs t J (fx_pt (fx_pt w bs x.2.toNat (1048576 * x.1 + t)) a2 11 ((J ++ W).length : Int)) bs i = zl_pa bs t J (fx_pt w bs x.2.toNat (1048576 * x.1 + t)) bs i
    have same : ∀ (J : List (Int × Int)) (u z : fx_U), (∀ i, u bs i = z bs i) → ∀ i, zl_pa bs t J u bs i = zl_pa bs t J z bs i := by
      intro J
      induction J with
      | nil => intro u z h i; exact h i
      | cons y J ih =>
        intro u z h i
        refine ih _ _ (fun j => ?_) i
        by_cases q : j = y.2.toNat
        · rw [q, zz_ps, zz_ps]
        · rw [zz_pj q, zz_pj q]
          exact h j
    exact same J _ _ (fun i => zz_pa ha.2.2.1.1) i
end LawX
