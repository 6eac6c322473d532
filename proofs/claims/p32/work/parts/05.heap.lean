/-! ROWS OF THE HEAP -/
section Facts
variable {τ : q_T} {σ σ0 σ1 σ2 : q_V} {md md2 : List (Nat × Nat)}
theorem q_v.int {t : Nat × Int × Int} {v : Value} {lo hi : Int} (h : q_v τ t v) (ht : t = (0, lo, hi)) : ∃ x : Int32, v = .int x ∧ q_r x lo hi := by
  subst ht
  rcases h with ⟨-, x, h1, h2⟩ | ⟨h, -⟩ | ⟨h, -⟩ | ⟨h, -⟩
  · exact ⟨x, h1, h2⟩
  · exact absurd h (by decide : ¬ (0 : Nat) = 1)
  · exact absurd h (by decide : ¬ (0 : Nat) = 2)
  · exact absurd h (by decide : ¬ (0 : Nat) = 3)
theorem q_v.int3 {t : Nat × Int × Int} {v : Value} {lo hi : Int} (h : q_v τ t v) (ht : t = (3, lo, hi)) : ∃ x : Int32, v = .int x ∧ q_r x lo hi ∧ x.toInt ≠ -1 := by
  subst ht
  rcases h with ⟨h, -⟩ | ⟨h, -⟩ | ⟨h, -⟩ | ⟨-, x, h1, h2, h3, h4⟩
  · exact absurd h (by decide : ¬ (3 : Nat) = 0)
  · exact absurd h (by decide : ¬ (3 : Nat) = 1)
  · exact absurd h (by decide : ¬ (3 : Nat) = 2)
  · exact ⟨x, h1, ⟨h2, h3⟩, h4⟩
theorem q_v.ref {t : Nat × Int × Int} {v : Value} {k n : Nat} (h : q_v τ t v) (ht : t = (1, (k : Int), (n : Int))) : ∃ b : Nat, v = .ref b ∧ τ b = some (k, n) := by
  subst ht
  rcases h with ⟨h, -⟩ | ⟨-, b, h1, h2, -⟩ | ⟨h, -⟩ | ⟨h, -⟩
  · exact absurd h (by decide : ¬ (1 : Nat) = 0)
  · exact ⟨b, h1, h2⟩
  · exact absurd h (by decide : ¬ (1 : Nat) = 2)
  · exact absurd h (by decide : ¬ (1 : Nat) = 3)
theorem q_v.any {t : Nat × Int × Int} {v : Value} (h : q_v τ t v) (ht : t = (2, 0, 0)) : v = .null ∨ ∃ b : Nat, v = .ref b := by
  subst ht
  rcases h with ⟨h, -⟩ | ⟨h, -⟩ | ⟨-, h⟩ | ⟨h, -⟩
  · exact absurd h (by decide : ¬ (2 : Nat) = 0)
  · exact absurd h (by decide : ¬ (2 : Nat) = 1)
  · exact h
  · exact absurd h (by decide : ¬ (2 : Nat) = 3)
theorem q_vi {t : Nat × Int × Int} {x : Int32} {lo hi a b : Int} (ht : t = (0, lo, hi)) (hx : q_r x a b) (h : lo ≤ a ∧ b ≤ hi) : q_v τ t (.int x) := by
  subst ht
  exact Or.inl ⟨rfl, x, rfl, Int.le_trans h.1 hx.1, Int.le_trans hx.2 h.2⟩
theorem q_vi3 {t : Nat × Int × Int} {x : Int32} {lo hi a b : Int} (ht : t = (3, lo, hi)) (hx : q_r x a b) (h : lo ≤ a ∧ b ≤ hi) (hn : x.toInt ≠ -1) : q_v τ t (.int x) := by
  subst ht
  exact Or.inr (Or.inr (Or.inr ⟨rfl, x, rfl, Int.le_trans h.1 hx.1, Int.le_trans hx.2 h.2, hn⟩))
theorem q_vr {t : Nat × Int × Int} {b k n : Nat} (ht : t = (1, (k : Int), (n : Int))) (hT : τ b = some (k, n)) (hn : k < 100 → n = 1) : q_v τ t (.ref b) := by
  subst ht
  exact Or.inr (Or.inl ⟨rfl, b, rfl, hT, hn⟩)
theorem q_va {t : Nat × Int × Int} {b : Nat} (ht : t = (2, 0, 0)) : q_v τ t (.ref b) := by
  subst ht
  exact Or.inr (Or.inr (Or.inl ⟨rfl, Or.inr ⟨b, rfl⟩⟩))
theorem q_vn {t : Nat × Int × Int} (ht : t = (2, 0, 0)) : q_v τ t .null := by
  subst ht
  exact Or.inr (Or.inr (Or.inl ⟨rfl, Or.inl rfl⟩))
theorem q_r_any (x : Int32) : q_r x (-2147483648) 2147483647 := ⟨Int32.le_toInt x, Int32.toInt_le x⟩
theorem q_r.mono {x : Int32} {a b c d : Int} (h : q_r x a b) (hd : c ≤ a ∧ b ≤ d) : q_r x c d := ⟨Int.le_trans hd.1 h.1, Int.le_trans h.2 hd.2⟩
theorem q_I.put {a k n j : Nat} {v : Value} (h : q_I τ σ) (hT : τ a = some (k, n)) (hv : j < q_lim k n → q_v τ (q_f k j) v) : q_I τ (q_up σ a j v) := by
  intro b k2 n2 hb i hi
  by_cases hba : b = a
  · subst hba
    rw [hT] at hb
    cases hb
    by_cases hij : i = j
    · subst hij
      rw [q_up_same]
      exact hv hi
    · rw [q_up_slot hij]
      exact h b k n hT i hi
  · rw [q_up_ne hba]
    exact h b k2 n2 hb i hi
theorem q_F.rf : q_F md τ σ σ := fun _ _ _ _ _ _ => rfl
theorem q_S.rf (h : q_I τ σ) : q_S md τ σ σ := ⟨h, q_F.rf⟩
theorem q_F.put {a k n j : Nat} {v : Value} (h : q_F md τ σ0 σ) (hT : τ a = some (k, n)) (hm : md.contains (k, if k < 100 then j else 0) = true) : q_F md τ σ0 (q_up σ a j v) := by
  intro b k2 n2 i hb hc
  by_cases hba : b = a
  · subst hba
    rw [hT] at hb
    cases hb
    by_cases hij : i = j
    · subst hij
      rw [hm] at hc
      cases hc
    · by_cases hk : k < 100
      · rw [q_up_slot hij]
        exact h b k n i hT hc
      · rw [if_neg hk] at hm hc
        rw [hm] at hc
        cases hc
  · rw [q_up_ne hba]
    exact h b k2 n2 i hb hc
theorem q_F.trans (h : q_F md τ σ0 σ1) (h2 : q_F md2 τ σ1 σ2) (hs : md2.all (fun q => md.contains q) = true) : q_F md τ σ0 σ2 := by
  intro a k n j ha hc
  rw [h2 a k n j ha ?_]
  · exact h a k n j ha hc
  · cases hq : md2.contains (k, if k < 100 then j else 0) with
    | false => rfl
    | true =>
      have h9 : (k, if k < 100 then j else 0) ∈ md2 := by simpa using hq
      have h8 := List.all_eq_true.mp hs _ h9
      rw [hc] at h8
      cases h8
theorem q_S.put {a k n j : Nat} {v : Value} (h : q_S md τ σ0 σ) (hT : τ a = some (k, n)) (hm : md.contains (k, if k < 100 then j else 0) = true) (hv : j < q_lim k n → q_v τ (q_f k j) v) : q_S md τ σ0 (q_up σ a j v) := ⟨h.1.put hT hv, h.2.put hT hm⟩
theorem q_S.trans (h : q_S md τ σ0 σ1) (h2 : q_S md2 τ σ1 σ2) (hs : md2.all (fun q => md.contains q) = true) : q_S md τ σ0 σ2 := ⟨h2.1, h.2.trans h2.2 hs⟩
/-- a place that isn't among those that may change is as it was at the start -/
theorem q_S.same {a k n j : Nat} {v : Value} (h : q_S md τ σ0 σ) (hT : τ a = some (k, n)) (hm : md.contains (k, if k < 100 then j else 0) = false) (hv : σ0 a j = v) : σ a j = v := (h.2 a k n j hT hm).trans hv
end Facts
section HeapRows
variable {X : q_X} {cc : ByteArray} {own : String} {nL : Nat} {ret : Option FieldType} {fr lo mc ms cells slots pc : Nat} {τ : q_T} {σ σ0 : q_V} {lv : List (Nat × Value)} {st : List Value} {md : List (Nat × Nat)}
theorem q_getV {idx a k n j : Nat} {fin : Bool} {ty : FieldType} {v : Value} (hG : q_G X cc own nL ret fr lo mc ms) (hl : q_fl own idx k j fin ty) (hd : decode cc pc = .ok (.getfield idx, 3)) (hT : τ a = some (k, n)) (hv : σ a j = v)
    (kk : q_O X cells slots τ σ (pc + 3) lv (v :: st)) : q_O X cells slots τ σ pc lv (.ref a :: st) := by
  obtain ⟨p, l, e, R, s, m, args, below, meth, c, Q, A, D⟩ := X
  obtain ⟨hx, hb, hr, hml, hown, hts, hK, hlk, hA, hR⟩ := hG
  obtain ⟨r, t, ⟨hk, hc, hin, hnm, hty, hnf⟩, hj, hlink, hfin, htj, hsame⟩ := hl
  intro H locs ls h1 h2 h3
  rcases (h1 a k n hT).2 with ⟨-, r2, q0, cell, q1, q2, q3, q4⟩ | ⟨q0, -⟩
  · have hr2 : r2 = r := Option.some.inj (q0.symm.trans hc)
    subst hr2
    obtain ⟨hS, hfc, kC, hkC, hkind⟩ := hK.1.1 k _ hc
    obtain ⟨cf, kf, fi, f, hi, hsl⟩ := hS j hj
    refine W.getf hx hb hown (hts _ hlink) hi (u_facts hfc hkC (u_lays hts hin hj) hi).1 q1 (by rw [q3]; exact fun h => by cases h) (v := v) ?_ rfl rfl hd (kk H locs ls h1 h2 h3)
    rw [hsl, q4 j hj, hv]
  · omega
theorem q_getI {idx a k j : Nat} {fin : Bool} {ty : FieldType} {a1 a2 : Int} (hG : q_G X cc own nL ret fr lo mc ms) (hl : q_fl own idx k j fin ty) (hd : decode cc pc = .ok (.getfield idx, 3)) (hI : q_I τ σ) (hT : τ a = some (k, 1)) (hf : q_f k j = (0, a1, a2))
    (kk : ∀ x : Int32, σ a j = .int x → q_r x a1 a2 → q_O X cells slots τ σ (pc + 3) lv (.int x :: st)) : q_O X cells slots τ σ pc lv (.ref a :: st) := by
  obtain ⟨r, t, ⟨hk, hc, hin, hnm, hty, hnf⟩, hj, hlink, hfin, htj, hsame⟩ := id hl
  have hq : j < q_lim k 1 := by unfold q_lim; rw [if_pos hk, if_pos rfl, hnf]; exact hj
  obtain ⟨x, h1, h2⟩ := (hI a k 1 hT j hq).int hf
  exact q_getV hG hl hd hT h1 (kk x h1 h2)
theorem q_getR {idx a k j : Nat} {fin : Bool} {ty : FieldType} {k2 n2 : Nat} (hG : q_G X cc own nL ret fr lo mc ms) (hl : q_fl own idx k j fin ty) (hd : decode cc pc = .ok (.getfield idx, 3)) (hI : q_I τ σ) (hT : τ a = some (k, 1)) (hf : q_f k j = (1, (k2 : Int), (n2 : Int)))
    (kk : ∀ b : Nat, σ a j = .ref b → τ b = some (k2, n2) → q_O X cells slots τ σ (pc + 3) lv (.ref b :: st)) : q_O X cells slots τ σ pc lv (.ref a :: st) := by
  obtain ⟨r, t, ⟨hk, hc, hin, hnm, hty, hnf⟩, hj, hlink, hfin, htj, hsame⟩ := id hl
  have hq : j < q_lim k 1 := by unfold q_lim; rw [if_pos hk, if_pos rfl, hnf]; exact hj
  obtain ⟨x, h1, h2⟩ := (hI a k 1 hT j hq).ref hf
  exact q_getV hG hl hd hT h1 (kk x h1 h2)
theorem q_putV {idx a k n j : Nat} {ty : FieldType} {v : Value} (hG : q_G X cc own nL ret fr lo mc ms) (hl : q_fl own idx k j false ty) (hd : decode cc pc = .ok (.putfield idx, 3)) (hT : τ a = some (k, n)) (hn : narrow ty v = v) (hf : fits ty v = true)
    (kk : q_O X cells slots τ (q_up σ a j v) (pc + 3) lv st) : q_O X cells slots τ σ pc lv (v :: .ref a :: st) := by
  obtain ⟨p, l, e, R, s, m, args, below, meth, c, Q, A, D⟩ := X
  obtain ⟨hx, hb, hr, hml, hown, hts, hK, hlk, hA, hR⟩ := hG
  obtain ⟨⟨C, T, N⟩, t, ⟨hk, hc, hin, hnm, hty, hnf⟩, hj, hlink, hfin, htj, hsame⟩ := hl
  intro H locs ls h1 h2 h3
  have hap := va_apart (own := own) hts hin t hty hnm hK.1 hc
  rcases (h1 a k n hT).2 with ⟨-, r2, q0, cell, q1, q2, q3, q4⟩ | ⟨q0, -⟩
  · have hr2 : r2 = (C, T, N) := Option.some.inj (q0.symm.trans hc)
    subst hr2
    obtain ⟨hS, hfc, kC, hkC, hkind⟩ := hK.1.1 k _ hc
    obtain ⟨cf, kf, fi, f, hi, hsl⟩ := hS j hj
    have hlay := hts _ (hin _ (u_in_lay hj))
    unfold u_lay at hlay
    rw [if_neg (by rw [hfin]; decide)] at hlay
    have hst := (u_facts hfc hkC (u_lays hts hin hj) hi).1
    have h6 := u_store hfc hkC hkind hlay hi (hty j hj) (by rw [htj]; exact hn) (by rw [htj]; exact hf)
    refine W.putK hx hb (f := f) ⟨hown, hts _ hlink, ⟨_, _, _, hi⟩, hst⟩ (by rw [q2]; exact h6) q1 q3 (by rw [hsl]; exact k2_hasslot (q4 j hj)) rfl rfl hd fun H' e1 e2 e3 => ?_
    rw [hsl] at e1 ⊢
    refine kk H' _ ls (h1.set hT (Or.inl ⟨hk, _, hc, ?_⟩) e3 (fun b hb => q_up_ne hb)) (h2.put e2 e3 (h1 a k n hT).1) h3
    have hz : q_up σ a j v a = updV (σ a) j v := by simp [q_up]
    rw [hz]
    exact ⟨_, e1, q2, q3, t_set q4 hap hj v⟩
  · omega
theorem q_putF {idx a k n j : Nat} {ty : FieldType} {v : Value} (hG : q_G X cc own nL ret fr lo mc ms) (hin2 : X.2.2.2.2.2.2.2.2.1.name = "<init>") (hl : q_fl own idx k j true ty) (ho : ∀ r : vw_C, vwCl[k]? = some r → r.1 = own) (hd : decode cc pc = .ok (.putfield idx, 3)) (hT : τ a = some (k, n)) (hn : narrow ty v = v) (hf : fits ty v = true)
    (kk : q_O X cells slots τ (q_up σ a j v) (pc + 3) lv st) : q_O X cells slots τ σ pc lv (v :: .ref a :: st) := by
  obtain ⟨p, l, e, R, s, m, args, below, meth, c, Q, A, D⟩ := X
  obtain ⟨hx, hb, hr, hml, hown, hts, hK, hlk, hA, hR⟩ := hG
  obtain ⟨⟨C, T, N⟩, t, ⟨hk, hc, hin, hnm, hty, hnf⟩, hj, hlink, hfin, htj, hsame⟩ := hl
  intro H locs ls h1 h2 h3
  have hap := va_apart (own := own) hts hin t hty hnm hK.1 hc
  rcases (h1 a k n hT).2 with ⟨-, r2, q0, cell, q1, q2, q3, q4⟩ | ⟨q0, -⟩
  · have hr2 : r2 = (C, T, N) := Option.some.inj (q0.symm.trans hc)
    subst hr2
    obtain ⟨hS, hfc, kC, hkC, hkind⟩ := hK.1.1 k _ hc
    obtain ⟨cf, kf, fi, f, hi, hsl⟩ := hS j hj
    have hlay := hts _ (hin _ (u_in_lay hj))
    unfold u_lay at hlay
    rw [if_pos hfin] at hlay
    have hst := (u_facts hfc hkC (u_lays hts hin hj) hi).1
    have hcf : m.cls = cf := by
      obtain ⟨_, _, c', _, _, _, -, -, hf', -, -, -, hown2, -⟩ := Cond.laysFinal_spec hlay
      have e1 : c' = cf := by have := hi.symm.trans hf'; simp at this; exact this.1.symm
      rw [show (T j).1 = own from hsame.trans (ho _ hc)] at hown2
      rw [← e1]; exact Option.some.inj (hown.symm.trans hown2)
    have h6 := u_fits hfc hkC hkind (Or.inr hlay) hi (hty j hj) (by rw [htj]; exact hn) (by rw [htj]; exact hf)
    refine W.putFinK hx hb hown (hts _ hlink) hi hst hcf hin2 (by rw [q2]; exact h6) q1 q3 (by rw [hsl]; exact k2_hasslot (q4 j hj)) rfl rfl hd fun H' e1 e2 e3 => ?_
    rw [hsl] at e1 ⊢
    refine kk H' _ ls (h1.set hT (Or.inl ⟨hk, _, hc, ?_⟩) e3 (fun b hb => q_up_ne hb)) (h2.put e2 e3 (h1 a k n hT).1) h3
    have hz : q_up σ a j v a = updV (σ a) j v := by simp [q_up]
    rw [hz]
    exact ⟨_, e1, q2, q3, t_set q4 hap hj v⟩
  · omega
/-- a number into a field of a made object -/
theorem q_putI {idx a k j : Nat} {x : Int32} {a1 a2 b1 b2 : Int} (hG : q_G X cc own nL ret fr lo mc ms) (hl : q_fl own idx k j false .int) (hd : decode cc pc = .ok (.putfield idx, 3)) (hS : q_S md τ σ0 σ) (hT : τ a = some (k, 1)) (hf : q_f k j = (0, a1, a2)) (hx : q_r x b1 b2) (hle : a1 ≤ b1 ∧ b2 ≤ a2) (hm : md.contains (k, if k < 100 then j else 0) = true)
    (kk : ∀ σ1 : q_V, σ1 = q_up σ a j (.int x) → q_S md τ σ0 σ1 → q_O X cells slots τ σ1 (pc + 3) lv st) : q_O X cells slots τ σ pc lv (.int x :: .ref a :: st) :=
  q_putV hG hl hd hT rfl rfl (kk _ rfl (hS.put hT hm (fun _ => q_vi hf hx hle)))
theorem q_narrowZ {x : Int32} (h : q_r x 0 1) : narrow .boolean (.int x) = .int x ∧ fits .boolean (.int x) = true := by
  have h0 : x = 0 ∨ x = 1 := by
    have h1 := h.1
    have h2 := h.2
    by_cases h3 : x.toInt = 0
    · exact Or.inl (Int32.toInt_inj.mp (h3.trans Int32.toInt_zero.symm))
    · exact Or.inr (Int32.toInt_inj.mp (by rw [show (1 : Int32).toInt = 1 from rfl]; omega))
  rcases h0 with rfl | rfl <;> exact ⟨rfl, rfl⟩
theorem q_putZ {idx a k j : Nat} {x : Int32} {a1 a2 : Int} (hG : q_G X cc own nL ret fr lo mc ms) (hl : q_fl own idx k j false .boolean) (hd : decode cc pc = .ok (.putfield idx, 3)) (hS : q_S md τ σ0 σ) (hT : τ a = some (k, 1)) (hf : q_f k j = (0, a1, a2)) (hx : q_r x 0 1) (hle : a1 ≤ 0 ∧ 1 ≤ a2) (hm : md.contains (k, if k < 100 then j else 0) = true)
    (kk : ∀ σ1 : q_V, σ1 = q_up σ a j (.int x) → q_S md τ σ0 σ1 → q_O X cells slots τ σ1 (pc + 3) lv st) : q_O X cells slots τ σ pc lv (.int x :: .ref a :: st) :=
  q_putV hG hl hd hT (q_narrowZ hx).1 (q_narrowZ hx).2 (kk _ rfl (hS.put hT hm (fun _ => q_vi hf hx hle)))
/-- a reference into a field of a made object -/
theorem q_putR {idx a k j b : Nat} {ty : FieldType} (hG : q_G X cc own nL ret fr lo mc ms) (hl : q_fl own idx k j false ty) (hd : decode cc pc = .ok (.putfield idx, 3)) (hS : q_S md τ σ0 σ) (hT : τ a = some (k, 1)) (hv : q_v τ (q_f k j) (.ref b)) (hn : narrow ty (.ref b) = .ref b) (hf : fits ty (.ref b) = true) (hm : md.contains (k, if k < 100 then j else 0) = true)
    (kk : ∀ σ1 : q_V, σ1 = q_up σ a j (.ref b) → q_S md τ σ0 σ1 → q_O X cells slots τ σ1 (pc + 3) lv st) : q_O X cells slots τ σ pc lv (.ref b :: .ref a :: st) :=
  q_putV hG hl hd hT hn hf (kk _ rfl (hS.put hT hm (fun _ => hv)))
/-! arrays -/
theorem q_inx {i : Int32} {n : Nat} (h : 0 ≤ i.toInt ∧ i.toInt < n) : ¬ (i < 0 ∨ n ≤ i.toNatClampNeg) := vp_in_iff.mpr h
theorem q_clamp {i : Int32} : i.toNatClampNeg = i.toInt.toNat := rfl
theorem q_arrK {D : q_D} {s : State} (hK : q_K D s) (t : Nat) (ht : t < 4) : ArrOfT s (D.2 t) (q_et t) := by
  rcases (show t = 0 ∨ t = 1 ∨ t = 2 ∨ t = 3 by omega) with rfl | rfl | rfl | rfl
  · exact (hK.1.2 0 _ rfl).1
  · exact (hK.1.2 1 _ rfl).1
  · exact (hK.1.2 2 _ rfl).1
  · exact (hK.1.2 3 _ rfl).1
theorem q_atArr {D : q_D} {A : Nat → Prop} {H : Heap} {a k n : Nat} (h1 : q_R A D τ σ H) (hT : τ a = some (k, n)) (hk : 100 ≤ k) : H[a]? = some (arrV (D.2 (q_ak k)) n (σ a)) := by
  rcases (h1 a k n hT).2 with ⟨q0, -⟩ | ⟨-, q1⟩
  · omega
  · exact q1
theorem q_ialdV {a k n : Nat} {i : Int32} {v : Value} (hG : q_G X cc own nL ret fr lo mc ms) (hd : decode cc pc = .ok (.iaload, 1)) (hT : τ a = some (k, n)) (hk : 100 ≤ k) (ht : q_ak k = 0) (hi : 0 ≤ i.toInt ∧ i.toInt < n) (hv : σ a i.toInt.toNat = v)
    (kk : q_O X cells slots τ σ (pc + 1) lv (v :: st)) : q_O X cells slots τ σ pc lv (.int i :: .ref a :: st) := by
  obtain ⟨p, l, e, R, s, m, args, below, meth, c, Q, A, D⟩ := X
  obtain ⟨hx, hb, hr, hml, hown, hts, hK, hlk, hA, hR⟩ := hG
  intro H locs ls h1 h2 h3
  have h4 := q_atArr h1 hT hk
  rw [ht] at h4
  refine W.iald hx hb h4 (q_arrK hK 0 (by decide) n _) (fun h => by cases h) (by rw [arrV_size]; exact q_inx hi) (v := v) ?_ rfl rfl hd (kk H locs ls h1 h2 h3)
  rw [q_clamp, arrV_read _ _ (by omega), hv]
theorem q_zaldV {a k n : Nat} {i : Int32} {v : Value} (hG : q_G X cc own nL ret fr lo mc ms) (hd : decode cc pc = .ok (.baload, 1)) (hT : τ a = some (k, n)) (hk : 100 ≤ k) (ht : q_ak k = 1) (hi : 0 ≤ i.toInt ∧ i.toInt < n) (hv : σ a i.toInt.toNat = v)
    (kk : q_O X cells slots τ σ (pc + 1) lv (v :: st)) : q_O X cells slots τ σ pc lv (.int i :: .ref a :: st) := by
  obtain ⟨p, l, e, R, s, m, args, below, meth, c, Q, A, D⟩ := X
  obtain ⟨hx, hb, hr, hml, hown, hts, hK, hlk, hA, hR⟩ := hG
  intro H locs ls h1 h2 h3
  have h4 := q_atArr h1 hT hk
  rw [ht] at h4
  refine W.zald hx hb h4 (q_arrK hK 1 (by decide) n _) (fun h => by cases h) (by rw [arrV_size]; exact q_inx hi) (v := v) ?_ rfl rfl hd (kk H locs ls h1 h2 h3)
  rw [q_clamp, arrV_read _ _ (by omega), hv]
theorem q_baldV {a k n : Nat} {i : Int32} {v : Value} (hG : q_G X cc own nL ret fr lo mc ms) (hd : decode cc pc = .ok (.baload, 1)) (hT : τ a = some (k, n)) (hk : 100 ≤ k) (ht : q_ak k = 2) (hi : 0 ≤ i.toInt ∧ i.toInt < n) (hv : σ a i.toInt.toNat = v)
    (kk : q_O X cells slots τ σ (pc + 1) lv (v :: st)) : q_O X cells slots τ σ pc lv (.int i :: .ref a :: st) := by
  obtain ⟨p, l, e, R, s, m, args, below, meth, c, Q, A, D⟩ := X
  obtain ⟨hx, hb, hr, hml, hown, hts, hK, hlk, hA, hR⟩ := hG
  intro H locs ls h1 h2 h3
  have h4 := q_atArr h1 hT hk
  rw [ht] at h4
  refine W.bald hx hb h4 (q_arrK hK 2 (by decide) n _) (fun h => by cases h) (by rw [arrV_size]; exact q_inx hi) (v := v) ?_ rfl rfl hd (kk H locs ls h1 h2 h3)
  rw [q_clamp, arrV_read _ _ (by omega), hv]
theorem q_aaldV {a k n : Nat} {i : Int32} {v : Value} (hG : q_G X cc own nL ret fr lo mc ms) (hd : decode cc pc = .ok (.aaload, 1)) (hT : τ a = some (k, n)) (hk : 100 ≤ k) (ht : q_ak k = 3) (hi : 0 ≤ i.toInt ∧ i.toInt < n) (hv : σ a i.toInt.toNat = v)
    (kk : q_O X cells slots τ σ (pc + 1) lv (v :: st)) : q_O X cells slots τ σ pc lv (.int i :: .ref a :: st) := by
  obtain ⟨p, l, e, R, s, m, args, below, meth, c, Q, A, D⟩ := X
  obtain ⟨hx, hb, hr, hml, hown, hts, hK, hlk, hA, hR⟩ := hG
  intro H locs ls h1 h2 h3
  have h4 := q_atArr h1 hT hk
  rw [ht] at h4
  refine W.aald hx hb h4 (q_arrK hK 3 (by decide) n _) rfl (fun h => by cases h) (by rw [arrV_size]; exact q_inx hi) (v := v) ?_ rfl rfl hd (kk H locs ls h1 h2 h3)
  rw [q_clamp, arrV_read _ _ (by omega), hv]
theorem q_limA {k n : Nat} (hk : 100 ≤ k) : q_lim k n = n := by unfold q_lim; rw [if_neg (by omega)]
theorem q_iald {a k n : Nat} {i : Int32} {a1 a2 : Int} (hG : q_G X cc own nL ret fr lo mc ms) (hd : decode cc pc = .ok (.iaload, 1)) (hI : q_I τ σ) (hA : q_ki k 0 a1 a2) (hT : τ a = some (k, n)) (hi : 0 ≤ i.toInt ∧ i.toInt < n)
    (kk : ∀ x : Int32, σ a i.toInt.toNat = .int x → q_r x a1 a2 → q_O X cells slots τ σ (pc + 1) lv (.int x :: st)) : q_O X cells slots τ σ pc lv (.int i :: .ref a :: st) := by
  obtain ⟨x, h1, h2⟩ := (hI a k n hT i.toInt.toNat (by rw [q_limA hA.1]; omega)).int (hA.2.2 _)
  exact q_ialdV hG hd hT hA.1 hA.2.1 hi h1 (kk x h1 h2)
theorem q_zald {a k n : Nat} {i : Int32} {a1 a2 : Int} (hG : q_G X cc own nL ret fr lo mc ms) (hd : decode cc pc = .ok (.baload, 1)) (hI : q_I τ σ) (hA : q_ki k 1 a1 a2) (hT : τ a = some (k, n)) (hi : 0 ≤ i.toInt ∧ i.toInt < n)
    (kk : ∀ x : Int32, σ a i.toInt.toNat = .int x → q_r x a1 a2 → q_O X cells slots τ σ (pc + 1) lv (.int x :: st)) : q_O X cells slots τ σ pc lv (.int i :: .ref a :: st) := by
  obtain ⟨x, h1, h2⟩ := (hI a k n hT i.toInt.toNat (by rw [q_limA hA.1]; omega)).int (hA.2.2 _)
  exact q_zaldV hG hd hT hA.1 hA.2.1 hi h1 (kk x h1 h2)
theorem q_bald {a k n : Nat} {i : Int32} {a1 a2 : Int} (hG : q_G X cc own nL ret fr lo mc ms) (hd : decode cc pc = .ok (.baload, 1)) (hI : q_I τ σ) (hA : q_ki k 2 a1 a2) (hT : τ a = some (k, n)) (hi : 0 ≤ i.toInt ∧ i.toInt < n)
    (kk : ∀ x : Int32, σ a i.toInt.toNat = .int x → q_r x a1 a2 → q_O X cells slots τ σ (pc + 1) lv (.int x :: st)) : q_O X cells slots τ σ pc lv (.int i :: .ref a :: st) := by
  obtain ⟨x, h1, h2⟩ := (hI a k n hT i.toInt.toNat (by rw [q_limA hA.1]; omega)).int (hA.2.2 _)
  exact q_baldV hG hd hT hA.1 hA.2.1 hi h1 (kk x h1 h2)
/-- the row of rows -/
theorem q_aald {a n : Nat} {i : Int32} (hG : q_G X cc own nL ret fr lo mc ms) (hd : decode cc pc = .ok (.aaload, 1)) (hI : q_I τ σ) (hT : τ a = some (400, n)) (hi : 0 ≤ i.toInt ∧ i.toInt < n)
    (kk : ∀ b : Nat, σ a i.toInt.toNat = .ref b → τ b = some (140, 65) → q_O X cells slots τ σ (pc + 1) lv (.ref b :: st)) : q_O X cells slots τ σ pc lv (.int i :: .ref a :: st) := by
  obtain ⟨x, h1, h2⟩ := (hI a 400 n hT i.toInt.toNat (by rw [q_limA (by decide)]; omega)).ref (k := 140) (n := 65) rfl
  exact q_aaldV hG hd hT (by decide) (by decide) hi h1 (kk x h1 h2)
theorem q_now0 (j : Nat) : (∃ a1 a2 : Int, q_f 100 j = (0, a1, a2)) ∨ ∃ a1 a2 : Int, q_f 100 j = (3, a1, a2) := by
  unfold q_f
  rw [if_neg (by decide), if_pos rfl]
  unfold q_now
  repeat (first | exact Or.inl ⟨_, _, rfl⟩ | exact Or.inr ⟨_, _, rfl⟩ | split)
/-- the reference's one row, at any place -/
theorem q_nald {a n : Nat} {i : Int32} (hG : q_G X cc own nL ret fr lo mc ms) (hd : decode cc pc = .ok (.iaload, 1)) (hI : q_I τ σ) (hT : τ a = some (100, n)) (hi : 0 ≤ i.toInt ∧ i.toInt < n)
    (kk : ∀ x : Int32, σ a i.toInt.toNat = .int x → q_O X cells slots τ σ (pc + 1) lv (.int x :: st)) : q_O X cells slots τ σ pc lv (.int i :: .ref a :: st) := by
  have h0 := hI a 100 n hT i.toInt.toNat (by rw [q_limA (by decide)]; omega)
  rcases q_now0 i.toInt.toNat with ⟨a1, a2, hq⟩ | ⟨a1, a2, hq⟩
  · obtain ⟨x, h1, h2⟩ := h0.int hq
    exact q_ialdV hG hd hT (by decide) (by decide) hi h1 (kk x h1)
  · obtain ⟨x, h1, h2⟩ := h0.int3 hq
    exact q_ialdV hG hd hT (by decide) (by decide) hi h1 (kk x h1)
/-- the same, where a number is that is not -1 -/
theorem q_nald3 {a n : Nat} {i : Int32} {a1 a2 : Int} (hG : q_G X cc own nL ret fr lo mc ms) (hd : decode cc pc = .ok (.iaload, 1)) (hI : q_I τ σ) (hT : τ a = some (100, n)) (hi : 0 ≤ i.toInt ∧ i.toInt < n) (hf : q_f 100 i.toInt.toNat = (3, a1, a2))
    (kk : ∀ x : Int32, σ a i.toInt.toNat = .int x → q_r x a1 a2 → x.toInt ≠ -1 → q_O X cells slots τ σ (pc + 1) lv (.int x :: st)) : q_O X cells slots τ σ pc lv (.int i :: .ref a :: st) := by
  obtain ⟨x, h1, h2, h3⟩ := (hI a 100 n hT i.toInt.toNat (by rw [q_limA (by decide)]; omega)).int3 hf
  exact q_ialdV hG hd hT (by decide) (by decide) hi h1 (kk x h1 h2 h3)
/-- the same, at a place of which more is known -/
theorem q_naldc {a n : Nat} {i : Int32} {a1 a2 : Int} (hG : q_G X cc own nL ret fr lo mc ms) (hd : decode cc pc = .ok (.iaload, 1)) (hI : q_I τ σ) (hT : τ a = some (100, n)) (hi : 0 ≤ i.toInt ∧ i.toInt < n) (hf : q_f 100 i.toInt.toNat = (0, a1, a2))
    (kk : ∀ x : Int32, σ a i.toInt.toNat = .int x → q_r x a1 a2 → q_O X cells slots τ σ (pc + 1) lv (.int x :: st)) : q_O X cells slots τ σ pc lv (.int i :: .ref a :: st) := by
  obtain ⟨x, h1, h2⟩ := (hI a 100 n hT i.toInt.toNat (by rw [q_limA (by decide)]; omega)).int hf
  exact q_ialdV hG hd hT (by decide) (by decide) hi h1 (kk x h1 h2)
theorem q_iastV {a k n : Nat} {i x : Int32} (hG : q_G X cc own nL ret fr lo mc ms) (hd : decode cc pc = .ok (.iastore, 1)) (hT : τ a = some (k, n)) (hk : 100 ≤ k) (ht : q_ak k = 0) (hi : 0 ≤ i.toInt ∧ i.toInt < n)
    (kk : q_O X cells slots τ (q_up σ a i.toInt.toNat (.int x)) (pc + 1) lv st) : q_O X cells slots τ σ pc lv (.int x :: .int i :: .ref a :: st) := by
  obtain ⟨p, l, e, R, s, m, args, below, meth, c, Q, A, D⟩ := X
  obtain ⟨hx, hb, hr, hml, hown, hts, hK, hlk, hA, hR⟩ := hG
  intro H locs ls h1 h2 h3
  have h4 := q_atArr h1 hT hk
  rw [ht] at h4
  refine W.iast hx hb h4 (q_arrK hK 0 (by decide) n _) (fun h => by cases h) (by rw [arrV_size]; exact q_inx hi) rfl rfl hd fun H' e1 e2 e3 => ?_
  rw [arrV_store] at e1
  refine kk H' _ ls (h1.set hT (Or.inr ⟨hk, ?_⟩) e3 (fun b hb => q_up_ne hb)) (h2.put e2 e3 (h1 a k n hT).1) h3
  rw [ht, show q_up σ a i.toInt.toNat (.int x) a = updV (σ a) i.toInt.toNat (.int x) by simp [q_up]]
  exact e1
theorem q_zastV {a k n : Nat} {i x : Int32} (hG : q_G X cc own nL ret fr lo mc ms) (hd : decode cc pc = .ok (.bastore, 1)) (hT : τ a = some (k, n)) (hk : 100 ≤ k) (ht : q_ak k = 1) (hi : 0 ≤ i.toInt ∧ i.toInt < n) (hx1 : q_r x 0 1)
    (kk : q_O X cells slots τ (q_up σ a i.toInt.toNat (.int x)) (pc + 1) lv st) : q_O X cells slots τ σ pc lv (.int x :: .int i :: .ref a :: st) := by
  obtain ⟨p, l, e, R, s, m, args, below, meth, c, Q, A, D⟩ := X
  obtain ⟨hx, hb, hr, hml, hown, hts, hK, hlk, hA, hR⟩ := hG
  intro H locs ls h1 h2 h3
  have h4 := q_atArr h1 hT hk
  rw [ht] at h4
  refine W.zast hx hb h4 (q_arrK hK 1 (by decide) n _) (fun h => by cases h) (by rw [arrV_size]; exact q_inx hi) rfl rfl hd fun H' e1 e2 e3 => ?_
  rw [(q_narrowZ hx1).1, arrV_store] at e1
  refine kk H' _ ls (h1.set hT (Or.inr ⟨hk, ?_⟩) e3 (fun b hb => q_up_ne hb)) (h2.put e2 e3 (h1 a k n hT).1) h3
  rw [ht, show q_up σ a i.toInt.toNat (.int x) a = updV (σ a) i.toInt.toNat (.int x) by simp [q_up]]
  exact e1
theorem q_bastV {a k n : Nat} {i x : Int32} (hG : q_G X cc own nL ret fr lo mc ms) (hd : decode cc pc = .ok (.bastore, 1)) (hT : τ a = some (k, n)) (hk : 100 ≤ k) (ht : q_ak k = 2) (hi : 0 ≤ i.toInt ∧ i.toInt < n)
    (kk : q_O X cells slots τ (q_up σ a i.toInt.toNat (.int x.toInt8.toInt32)) (pc + 1) lv st) : q_O X cells slots τ σ pc lv (.int x :: .int i :: .ref a :: st) := by
  obtain ⟨p, l, e, R, s, m, args, below, meth, c, Q, A, D⟩ := X
  obtain ⟨hx, hb, hr, hml, hown, hts, hK, hlk, hA, hR⟩ := hG
  intro H locs ls h1 h2 h3
  have h4 := q_atArr h1 hT hk
  rw [ht] at h4
  refine W.bast hx hb h4 (q_arrK hK 2 (by decide) n _) (fun h => by cases h) (by rw [arrV_size]; exact q_inx hi) rfl rfl hd fun H' e1 e2 e3 => ?_
  rw [show narrow .byte (.int x) = .int x.toInt8.toInt32 from rfl, arrV_store] at e1
  refine kk H' _ ls (h1.set hT (Or.inr ⟨hk, ?_⟩) e3 (fun b hb => q_up_ne hb)) (h2.put e2 e3 (h1 a k n hT).1) h3
  rw [ht, show q_up σ a i.toInt.toNat (.int x.toInt8.toInt32) a = updV (σ a) i.toInt.toNat (.int x.toInt8.toInt32) by simp [q_up]]
  exact e1
theorem q_mdA {k j : Nat} (hk : 100 ≤ k) (hm : md.contains (k, 0) = true) : md.contains (k, if k < 100 then j else 0) = true := by rw [if_neg (by omega)]; exact hm
theorem q_iast {a k n : Nat} {i x : Int32} {a1 a2 b1 b2 : Int} (hG : q_G X cc own nL ret fr lo mc ms) (hd : decode cc pc = .ok (.iastore, 1)) (hS : q_S md τ σ0 σ) (hA : q_ki k 0 a1 a2) (hT : τ a = some (k, n)) (hi : 0 ≤ i.toInt ∧ i.toInt < n) (hx : q_r x b1 b2) (hle : a1 ≤ b1 ∧ b2 ≤ a2) (hm : md.contains (k, 0) = true)
    (kk : ∀ σ1 : q_V, σ1 = q_up σ a i.toInt.toNat (.int x) → q_S md τ σ0 σ1 → q_O X cells slots τ σ1 (pc + 1) lv st) : q_O X cells slots τ σ pc lv (.int x :: .int i :: .ref a :: st) :=
  q_iastV hG hd hT hA.1 hA.2.1 hi (kk _ rfl (hS.put hT (q_mdA hA.1 hm) (fun _ => q_vi (hA.2.2 _) hx hle)))
theorem q_zast {a k n : Nat} {i x : Int32} (hG : q_G X cc own nL ret fr lo mc ms) (hd : decode cc pc = .ok (.bastore, 1)) (hS : q_S md τ σ0 σ) (hA : q_ki k 1 0 1) (hT : τ a = some (k, n)) (hi : 0 ≤ i.toInt ∧ i.toInt < n) (hx : q_r x 0 1) (hm : md.contains (k, 0) = true)
    (kk : ∀ σ1 : q_V, σ1 = q_up σ a i.toInt.toNat (.int x) → q_S md τ σ0 σ1 → q_O X cells slots τ σ1 (pc + 1) lv st) : q_O X cells slots τ σ pc lv (.int x :: .int i :: .ref a :: st) :=
  q_zastV hG hd hT hA.1 hA.2.1 hi hx (kk _ rfl (hS.put hT (q_mdA hA.1 hm) (fun _ => q_vi (hA.2.2 _) hx ⟨Int.le_refl _, Int.le_refl _⟩)))
/-- the reference's one row: a number at places lo1 to hi1, of which none has bounds of its own -/
theorem q_nfree {j : Nat} (h : (j ≠ 512 ∧ j ≠ 520 ∧ j ≠ 521) ∧ 64 ≤ j) : q_f 100 j = (0, -2147483648, 2147483647) := by
  unfold q_f
  rw [if_neg (by decide), if_pos rfl]
  unfold q_now
  rw [if_neg h.1.1, if_neg h.1.2.1, if_neg h.1.2.2, if_neg (by omega)]
theorem q_nkerb {i : Int32} {a b : Int} (h : q_r i a b) (hd : 0 ≤ a ∧ b ≤ 63) : q_f 100 i.toInt.toNat = (0, -99, 99) := by
  unfold q_r at h
  unfold q_f
  rw [if_neg (by decide), if_pos rfl]
  unfold q_now
  rw [if_neg (by omega), if_neg (by omega), if_neg (by omega), if_pos (by omega)]
theorem q_nrow {τ : q_T} {j : Nat} {x : Int32} (hj : j < 512) (hx : q_r x (-99) 99) : q_v τ (q_f 100 j) (.int x) := by
  by_cases h : j < 64
  · rw [show q_f 100 j = (0, -99, 99) by unfold q_f; rw [if_neg (by decide), if_pos rfl]; unfold q_now; rw [if_neg (by omega), if_neg (by omega), if_neg (by omega), if_pos h]]
    exact Or.inl ⟨rfl, x, rfl, hx.1, hx.2⟩
  · rw [q_nfree (j := j) (by omega)]
    exact Or.inl ⟨rfl, x, rfl, (q_r_any x).1, (q_r_any x).2⟩
theorem q_nast {a n : Nat} {i x : Int32} {a1 a2 b1 b2 : Int} (hG : q_G X cc own nL ret fr lo mc ms) (hd : decode cc pc = .ok (.iastore, 1)) (hS : q_S md τ σ0 σ) (hT : τ a = some (100, n)) (hi : 0 ≤ i.toInt ∧ i.toInt < n) (hf : q_f 100 i.toInt.toNat = (0, a1, a2)) (hx : q_r x b1 b2) (hle : a1 ≤ b1 ∧ b2 ≤ a2) (hm : md.contains (100, 0) = true)
    (kk : ∀ σ1 : q_V, σ1 = q_up σ a i.toInt.toNat (.int x) → q_S md τ σ0 σ1 → q_O X cells slots τ σ1 (pc + 1) lv st) : q_O X cells slots τ σ pc lv (.int x :: .int i :: .ref a :: st) :=
  q_iastV hG hd hT (by decide) (by decide) hi (kk _ rfl (hS.put hT (q_mdA (by decide) hm) (fun _ => q_vi hf hx hle)))
theorem q_nast3 {a n : Nat} {i x : Int32} {a1 a2 b1 b2 : Int} (hG : q_G X cc own nL ret fr lo mc ms) (hd : decode cc pc = .ok (.iastore, 1)) (hS : q_S md τ σ0 σ) (hT : τ a = some (100, n)) (hi : 0 ≤ i.toInt ∧ i.toInt < n) (hf : q_f 100 i.toInt.toNat = (3, a1, a2)) (hx : q_r x b1 b2) (hle : a1 ≤ b1 ∧ b2 ≤ a2) (hn : x.toInt ≠ -1) (hm : md.contains (100, 0) = true)
    (kk : ∀ σ1 : q_V, σ1 = q_up σ a i.toInt.toNat (.int x) → q_S md τ σ0 σ1 → q_O X cells slots τ σ1 (pc + 1) lv st) : q_O X cells slots τ σ pc lv (.int x :: .int i :: .ref a :: st) :=
  q_iastV hG hd hT (by decide) (by decide) hi (kk _ rfl (hS.put hT (q_mdA (by decide) hm) (fun _ => q_vi3 hf hx hle hn)))
theorem q_alen {a k n : Nat} {v : Int32} (hG : q_G X cc own nL ret fr lo mc ms) (hd : decode cc pc = .ok (.arraylength, 1)) (hT : τ a = some (k, n)) (hk : 100 ≤ k) (hv : Int32.ofNat n = v)
    (kk : q_O X cells slots τ σ (pc + 1) lv (.int v :: st)) : q_O X cells slots τ σ pc lv (.ref a :: st) := by
  obtain ⟨p, l, e, R, s, m, args, below, meth, c, Q, A, D⟩ := X
  obtain ⟨hx, hb, hr, hml, hown, hts, hK, hlk, hA, hR⟩ := hG
  intro H locs ls h1 h2 h3
  have h4 := q_atArr h1 hT hk
  have h5 : q_ak k < 4 := by unfold q_ak; split <;> (try split) <;> (try split) <;> decide
  refine W.alen hx hb h4 (q_arrK hK (q_ak k) h5 n _) ?_ rfl rfl hd (kk H locs ls h1 h2 h3)
  rw [arrV_size, ← hv]
end HeapRows
