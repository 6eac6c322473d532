/-! THE CLAIM OUT OF ONE WALK OF THE LAW'S BODY. Your part is whole_start (and what it stands on); all else here is the same for every law, but numbers. -/
def R_law : String := "WhiteLineLaw"
def lw_P (b : Addr) (xs : List Int32) (args : Array Value) (s : State) : Prop := args = #[.ref b] ∧ s.IntsAt b xs ∧ xs.length ≤ 3072 ∧ (Jvm.Cond.and given_1 narrow_1).before args s = true
def lw_Q (_ : Array Value) (s : State) (o : Outcome) (t : State) : Prop := o = .returned (some (.int 1)) ∧ Framed s o t [] 600000 7302250
def lw_Z (below : List Frame) (a : Array Value) (s : State) : State → Prop := fun t => ∃ o, t.status = .running ∧ Ended t below o ∧ lw_Q a s o t
/-- the law's own end, with 1 on the stack, nothing written that was there before, its room as the claim has it -/
theorem lw_ret {p : Program} {l : Launch} {e : Env} {s : State} {m : MethodId} {below : List Frame} {meth : Method} {c : Code} {b : Nat} (hx : p.tables.exec = Jvm.exec) (hb : c.code = code) (hr : meth.sig.returnType = ret) (hlocks : meth.locks = false) {pc : Nat} {H : Heap} {ls : Array Slot} (hdg : decode code pc = .ok (.ireturn, 1)) : W p l e room_1 s m #[Value.ref b] below meth c H [] 600000 7302250 (lw_Z below #[Value.ref b] s) (F0 m pc ls [.int 1]) := by
  intro T hT X
  obtain ⟨fs, hret, hrun, hended, hW, hframe⟩ := X.leave (v := some (.int 1)) (hlocks := hlocks) (fun h => by rw [hr] at h; cases h)
  have hmeth' : T.vm.method? m = some meth := X.method'
  refine ⟨T.setFrames fs, ?_, .returned (some (.int 1)), hrun, hended, rfl, ⟨_, rfl⟩, hW, hframe⟩
  jvm_step X.here [X.here.top, hx, hb, hdg, hmeth', hr, ret, narrow_b1]
  (try refine ⟨rfl, ?_⟩); (try refine ⟨rfl, ?_⟩)
  first | (intro acts; rw [hret _ acts rfl rfl rfl]) | rw [hret _ _ rfl rfl rfl]
  exact Steps.refl _
/-- what holds at the law's entry: the machine, the code, the tables' words (any of lw_tbl by 'hts w (by decide +kernel)'), the script of L ints xs at the cell b, what the Statement gives of the start (any of its parts by flat_of_before) -/
def lw_At (p : Program) (s : State) (m : MethodId) (meth : Method) (c : Code) (b L : Nat) (xs : Nat → Int32) : Prop :=
  p.tables.exec = Jvm.exec ∧ c.code = code ∧ meth.sig.returnType = ret ∧ c.maxLocals = 4 ∧ s.vm.findClass R_law = some m.cls ∧ (∀ w ∈ lw_tbl, w.before #[Value.ref b] s = true) ∧ va_X b L xs s s.heap ∧ b < s.heap.size ∧ meth.locks = false ∧ (Jvm.Cond.and given_1 narrow_1).before #[Value.ref b] s = true
theorem in_ao : (Jvm.Cond.arrayOver (Jvm.ClassFile.FieldType.array Jvm.ClassFile.FieldType.int)) ∈ lw_tbl := by
  have h : (Jvm.Cond.arrayOver (Jvm.ClassFile.FieldType.array Jvm.ClassFile.FieldType.int)) ∈ tables_1_2 := List.mem_of_getElem? (i := 97) rfl
  exact List.mem_append_right _ (show _ ∈ tables_1 from List.mem_append_right _ (List.mem_append_left _ h))
theorem in_ls : (Jvm.Cond.laysStatic "WhiteLine" "NO_TEXT" "[I") ∈ lw_tbl := by
  have h : (Jvm.Cond.laysStatic "WhiteLine" "NO_TEXT" "[I") ∈ tables_1_1 := List.mem_of_getElem? (i := 31) rfl
  exact List.mem_append_right _ (show _ ∈ tables_1 from List.mem_append_left _ h)
theorem q_notext_at {args : Array Value} {s : State} (h : (Cond.arrayOf (.static "WhiteLine" "NO_TEXT" "[I") .int).before args s = true) : ∃ t : Nat, (Term.static "WhiteLine" "NO_TEXT" "[I").eval args s none [] s = some (.ref t) := by
  cases hv : (Term.static "WhiteLine" "NO_TEXT" "[I").eval args s none [] s with
  | none => simp [Cond.before, Cond.holds, Cond.value, hv] at h
  | some w =>
    cases w with
    | ref t => exact ⟨t, rfl⟩
    | _ => simp [Cond.before, Cond.holds, Cond.value, hv] at h
theorem q_wf0 {τ : q_T} {σ : q_V} {a : Nat} (hI : q_I τ σ) (hT : τ a = some (10, 1)) (h : σ a 13 = .int 0) : q_wf σ a := by
  obtain ⟨bc, h1, -⟩ := (hI a 10 1 hT 21 (by decide)).ref (k := 156) (n := 260) rfl
  obtain ⟨bf, h2, -⟩ := (hI a 10 1 hT 23 (by decide)).ref (k := 158) (n := 16) rfl
  obtain ⟨bh, h3, -⟩ := (hI a 10 1 hT 24 (by decide)).ref (k := 159) (n := 16) rfl
  obtain ⟨bt, h4, -⟩ := (hI a 10 1 hT 25 (by decide)).ref (k := 160) (n := 16) rfl
  exact ⟨bc, bf, bh, bt, 0, h1, h2, h3, h4, h, fun q hq => absurd hq (by rw [show (0 : Int32).toInt = 0 from rfl]; omega)⟩
theorem q_kp0 {τ : q_T} {σ : q_V} {a : Nat} (h : σ a 45 = .int 0) : q_kp τ σ a := fun x b h45 hne => by
  cases h45.symm.trans h
  exact absurd rfl hne
set_option maxRecDepth 100000 in
set_option maxHeartbeats 40000000 in
theorem whole_start {p : Program} {e : Env} {s : State} {m : MethodId} {below : List Frame} {meth : Method} {c : Code} (l : Launch) (hflags : l.flags = flags0) {b L : Nat} {xs : Nat → Int32} (hL : L ≤ 3072) (C0 : lw_At p s m meth c b L xs) : W p l e room_1 s m #[Value.ref b] below meth c s.heap [] 0 0 (lw_Z below #[Value.ref b] s) (entryFrame m ([Value.ref b] : List Value).toArray 4) := by
  obtain ⟨hx, hb, hr, hml, hown, hts, hX, hbl, hlocks, hgv⟩ := id C0
  obtain ⟨c0, i0, kn0⟩ := u_known (C := RX0) (T := TX0) (N := 4) (n := 4) hts (fun w hw => q_tbl_in (in_0 w hw)) (hts _ (q_tbl_in w186))
  obtain ⟨c1, i1, kn1⟩ := u_known (C := RX1) (T := TX1) (N := 5) (n := 5) hts (fun w hw => q_tbl_in (in_1 w hw)) (hts _ (q_tbl_in w174))
  obtain ⟨c2, i2, kn2⟩ := u_known (C := RX2) (T := TX2) (N := 4) (n := 4) hts (fun w hw => q_tbl_in (in_2 w hw)) (hts _ (q_tbl_in w209))
  obtain ⟨c3, i3, kn3⟩ := u_known (C := RX3) (T := TX3) (N := 16) (n := 16) hts (fun w hw => q_tbl_in (in_3 w hw)) (hts _ (q_tbl_in w43))
  obtain ⟨c4, i4, kn4⟩ := u_known (C := RX4) (T := TX4) (N := 5) (n := 5) hts (fun w hw => q_tbl_in (in_4 w hw)) (hts _ (q_tbl_in w38))
  obtain ⟨c5, i5, kn5⟩ := u_known (C := RX6) (T := TX6) (N := 7) (n := 7) hts (fun w hw => q_tbl_in (in_5 w hw)) (hts _ (q_tbl_in w157))
  obtain ⟨c6, i6, kn6⟩ := u_known (C := RX7) (T := TX7) (N := 18) (n := 18) hts (fun w hw => q_tbl_in (in_6 w hw)) (hts _ (q_tbl_in w75))
  obtain ⟨c7, i7, kn7⟩ := u_known (C := RX8) (T := TX8) (N := 6) (n := 6) hts (fun w hw => q_tbl_in (in_7 w hw)) (hts _ (q_tbl_in w25))
  obtain ⟨c8, i8, kn8⟩ := u_known (C := RX10) (T := TX10) (N := 2) (n := 2) hts (fun w hw => q_tbl_in (in_8 w hw)) (hts _ (q_tbl_in w199))
  obtain ⟨c9, i9, kn9⟩ := u_known (C := RX11) (T := TX11) (N := 14) (n := 14) hts (fun w hw => q_tbl_in (in_9 w hw)) (hts _ (q_tbl_in w17))
  obtain ⟨c10, i10, kn10⟩ := u_known (C := RX12) (T := TX12) (N := 46) (n := 46) hts (fun w hw => q_tbl_in (in_10 w hw)) (hts _ (q_tbl_in w768))
  obtain ⟨dC, dI, hKc⟩ : ∃ (dC : Nat → ClassId) (dI : Nat → Nat → Nat), ∀ (k : Nat) (q : vw_C), vwCl[k]? = some q → u_Kn s q.1 q.2.1 q.2.2 (dC k) (dI k) := by
    refine ⟨fun k => match k with | 0 => c0 | 1 => c1 | 2 => c2 | 3 => c3 | 4 => c4 | 5 => c5 | 6 => c6 | 7 => c7 | 8 => c8 | 9 => c9 | _ => c10, fun k => match k with | 0 => i0 | 1 => i1 | 2 => i2 | 3 => i3 | 4 => i4 | 5 => i5 | 6 => i6 | 7 => i7 | 8 => i8 | 9 => i9 | _ => i10, ?_⟩
    intro k q hq
    match k, hq with
    | 0, hq => cases hq; exact kn0
    | 1, hq => cases hq; exact kn1
    | 2, hq => cases hq; exact kn2
    | 3, hq => cases hq; exact kn3
    | 4, hq => cases hq; exact kn4
    | 5, hq => cases hq; exact kn5
    | 6, hq => cases hq; exact kn6
    | 7, hq => cases hq; exact kn7
    | 8, hq => cases hq; exact kn8
    | 9, hq => cases hq; exact kn9
    | 10, hq => cases hq; exact kn10
    | k + 11, hq => simp [vwCl] at hq
  obtain ⟨ca0, ka0, co0, ha0, hb0, hc0⟩ := Cond.arrayClass_spec (hts _ (q_tbl_in w36))
  obtain ⟨ca1, ka1, co1, ha1, hb1, hc1⟩ := Cond.arrayClass_spec (hts _ (q_tbl_in w155))
  obtain ⟨ca2, ka2, co2, ha2, hb2, hc2⟩ := Cond.arrayClass_spec (hts _ (q_tbl_in w830))
  obtain ⟨ca3, cb3, ka3, hd3, hb3, hc3, ha3⟩ := q_ao (hts _ in_ao)
  have hcb : cb3 = ca0 := Option.some.inj (hd3.symm.trans ha0)
  subst hcb
  obtain ⟨D, hD⟩ : ∃ D : q_D, D = ((dC, dI), fun t => match t with | 0 => cb3 | 1 => ca1 | 2 => ca2 | _ => ca3) := ⟨_, rfl⟩
  have hK : q_K D s := by
    subst hD
    refine ⟨⟨hKc, fun k q h => ?_⟩, fun w hw hn => va_Nw.of (by cases w <;> first | rfl | exact absurd hn (by simp [q_nest])) (hts w hw), ka3, hb3, hc3⟩
    match k, h with
    | 0, h => cases h; exact ⟨fun n z => ⟨fun k h => (by cases h), ka0, hb0, co0, hc0⟩, ha0⟩
    | 1, h => cases h; exact ⟨fun n z => ⟨fun k h => (by cases h), ka1, hb1, co1, hc1⟩, ha1⟩
    | 2, h => cases h; exact ⟨fun n z => ⟨fun k h => (by cases h), ka2, hb2, co2, hc2⟩, ha2⟩
    | 3, h => cases h; exact ⟨fun n z => ⟨fun k h => (by cases h), ka3, hb3, cb3, hc3⟩, ha3⟩
    | k + 4, h => simp [q_tys] at h
  obtain ⟨X, hXe⟩ : ∃ X : q_X, X = (p, l, e, room_1, s, m, #[Value.ref b], below, meth, c, lw_Z below #[Value.ref b] s, (fun q : Nat => s.heap.size ≤ q), D) := ⟨_, rfl⟩
  have hG : q_G X cL_law "WhiteLineLaw" 4 (some .boolean) 2048 84000 600000 7302250 := by subst hXe; exact ⟨hx, hb, hr, hml, hown, fun w hw => hts w (q_tbl_in hw), hK, hlocks, fun _ h => h, rfl⟩
  have hZ : q_zn X := by
    subst hXe
    obtain ⟨t, ht⟩ := q_notext_at (flat_of_before _ hgv (Cond.arrayOf (.static "WhiteLine" "NO_TEXT" "[I") .int) (by decide +kernel))
    exact ⟨t, va_Zof (hts _ in_ls) (hts _ (q_tbl_in w1)) ht (fun a h => Nat.not_le.mpr h)⟩
  have hXs : q_xs X b L xs := by subst hXe; exact hX
  have hbl2 : q_bl X b := by subst hXe; exact hbl
  have hbA : q_ba X b := by subst hXe; exact Nat.not_le.mpr hbl
  have hl := lv_entry ([.ref b]) (n := 4) (Nat.le_of_ble_eq_true rfl)
  rw [lg_entry_eq]
  generalize (lg_sl ([.ref b]) ++ List.replicate (4 - (lg_sl ([.ref b])).length) Slot.unset).toArray = ls at hl ⊢
  have hl : lv_has ls 4 [(0, .ref b)] := hl
  have KK : q_O X 0 0 (fun _ => none) (fun _ _ => .null) 0 [(0, .ref b)] [] := by
    have hI0 : q_I (fun _ => none) (fun _ _ => .null) := fun a k n h => by cases h
    refine q_newO (pc := 0) hG kl_9 w16 w17 w1 dL_law_0 ⟨by decide, by decide⟩ (fun h0 n0 => ?_)
    obtain ⟨τ0, et0⟩ : ∃ t : q_T, t = q_tu (fun _ => none) h0 (9, 0) := ⟨_, rfl⟩
    obtain ⟨σ0, es0⟩ : ∃ t : q_V, t = q_vu (fun _ _ => .null) h0 (fun j => defaultValue (tyX11 j)) := ⟨_, rfl⟩
    rw [← et0, ← es0]
    have T0 : τ0 h0 = some (9, 0) := by rw [et0]; exact q_tu_new
    have I0 : q_I τ0 σ0 := by rw [et0, es0]; exact q_I.mk hI0 n0 (fun j hj => absurd (show j < 0 from hj) (Nat.not_lt_zero j))
    show q_O X 1 14 τ0 σ0 3 [(0, .ref b)] [.ref h0]
    refine q_dup (pc := 3) hG dL_law_3 rfl ?_
    refine q_callIZ (pc := 4) (rest := [.ref h0]) [] hG hZ (c_X11_init τ0 σ0 h0 I0 T0) my_X11_init ⟨rfl, w19⟩ w18 dL_law_4 rfl rfl (Nat.le_of_ble_eq_true rfl) ⟨by decide, by decide, by decide, by decide⟩ (fun _ τ4 σ4 P4 => ?_)
    obtain ⟨E4, P4⟩ := P4
    obtain ⟨P4, Q4, R4, br, bk, bt, ⟨e5, e6, e7⟩, ⟨ne1, ne2, ne3⟩, d16, c0, c1, c2, g0, g1, g2, t0, t1, t2, hc3, hg3, ht3, ap1, ap2, ap3, hz3, lq, lr, lf, eq3, eq4, hlz, wN, wM, wO, ⟨wz1, wz2, wz3⟩, ⟨wm1, wm2, wm3⟩, wa1, wa2, wa3⟩ := P4
    show q_O X 88 4093 τ4 σ4 7 [(0, .ref b)] [.ref h0]
    refine q_astore_n (pc := 7) [(1, .ref h0), (0, .ref b)] hG dL_law_7 (by decide) rfl ?_
    refine q_newO (pc := 8) hG kl_10 w767 w768 w11 dL_law_8 ⟨by decide, by decide⟩ (fun h8 n8 => ?_)
    obtain ⟨τ8, et8⟩ : ∃ t : q_T, t = q_tu τ4 h8 (10, 0) := ⟨_, rfl⟩
    obtain ⟨σ8, es8⟩ : ∃ t : q_V, t = q_vu σ4 h8 (fun j => defaultValue (tyX12 j)) := ⟨_, rfl⟩
    rw [← et8, ← es8]
    have T8 : τ8 h8 = some (10, 0) := by rw [et8]; exact q_tu_new
    have I8 : q_I τ8 σ8 := by rw [et8, es8]; exact q_I.mk P4.1 n8 (fun j hj => absurd (show j < 0 from hj) (Nat.not_lt_zero j))
    have N8 : h0 ≠ h8 := fun e => by have q := P4.2.1; rw [e, n8] at q; cases q
    have S8 : τ8 h0 = some (9, 1) := by rw [et8]; exact (q_tu_ne N8).trans P4.2.1
    have Z8 : σ8 h8 = (fun j => defaultValue (tyX12 j)) := by rw [es8]; exact q_vu_new
    show q_O X 89 4139 τ8 σ8 11 [(1, .ref h0), (0, .ref b)] [.ref h8]
    refine q_dup (pc := 11) hG dL_law_11 rfl ?_
    refine q_callI (pc := 12) (rest := [.ref h8]) [] hG (c_X12_init τ8 σ8 h8 I8 T8 (fun j _ => congrFun Z8 j)) my_X12_init ⟨rfl, w770⟩ w769 dL_law_12 rfl rfl (Nat.le_of_ble_eq_true rfl) ⟨by decide, by decide, by decide, by decide⟩ (fun _ τ12 σ12 P12 => ?_)
    show q_O X 118 11908 τ12 σ12 15 [(1, .ref h0), (0, .ref b)] [.ref h8]
    refine q_astore_n (pc := 15) [(2, .ref h8), (1, .ref h0), (0, .ref b)] hG dL_law_15 (by decide) rfl ?_
    refine q_lv [2, 1, 0] rfl ?_
    obtain ⟨E12, P12⟩ := P12
    obtain ⟨U1, U2, U3, U4, U5, U6, bn, U7, U8, UW, UQ, U118, US4, US3⟩ := P12
    have Y9 : σ12 h0 = σ4 h0 := by rw [U4 h0 S8, es8, q_vu_ne N8]
    obtain ⟨br2, z1, z2⟩ := (P4.1 h0 9 1 P4.2.1 5 (by decide)).ref (k := 6) (n := 1) rfl
    cases e5.symm.trans z1
    have Nbr : br ≠ h8 := fun e => by rw [e, n8] at z2; cases z2
    have Y6 : σ12 br 0 = .int 16 := by rw [U5 br (by rw [et8]; exact (q_tu_ne Nbr).trans z2), es8, q_vu_ne Nbr]; exact d16
    have E6 : ∀ b : Nat, τ4 b = some (6, 1) → σ12 b = σ4 b := fun b hb => by
      have n : b ≠ h8 := fun e => by rw [e, n8] at hb; cases hb
      rw [U5 b (by rw [et8]; exact (q_tu_ne n).trans hb), es8, q_vu_ne n]
    have E118 : ∀ b : Nat, τ4 b = some (118, 64) → σ12 b = σ4 b := fun b hb => by
      have n : b ≠ h8 := fun e => by rw [e, n8] at hb; cases hb
      rw [U118 b (by rw [et8]; exact (q_tu_ne n).trans hb), es8, q_vu_ne n]
    have Y5 : τ4 br = some (6, 1) := zz_refT P4.1 P4.2.1 (j := 5) (by decide) e5 rfl
    have YK : τ4 bk = some (6, 1) := zz_refT P4.1 P4.2.1 (j := 6) (by decide) e6 rfl
    have YT : τ4 bt = some (6, 1) := zz_refT P4.1 P4.2.1 (j := 7) (by decide) e7 rfl
    have ES4 : ∀ b : Nat, τ4 b = some (4, 1) → σ12 b = σ4 b := fun b hb => by
      have n : b ≠ h8 := fun e => by rw [e, n8] at hb; cases hb
      rw [US4 b (by rw [et8]; exact (q_tu_ne n).trans hb), es8, q_vu_ne n]
    have ES3 : ∀ b : Nat, τ4 b = some (3, 1) → σ12 b = σ4 b := fun b hb => by
      have n : b ≠ h8 := fun e => by rw [e, n8] at hb; cases hb
      rw [US3 b (by rw [et8]; exact (q_tu_ne n).trans hb), es8, q_vu_ne n]
    have Ylq : τ4 lq = some (4, 1) := zz_refT P4.1 P4.2.1 (j := 3) (by decide) eq3 rfl
    have Ylf : τ4 lf = some (3, 1) := zz_refT P4.1 P4.2.1 (j := 4) (by decide) eq4 rfl
    have Ylr : τ4 lr = some (3, 1) := zz_refT P4.1 Ylq (j := 4) (by decide) hlz.1 rfl
    have wk1 : zw_M τ12 wN (fx_N σ12) := wm1.mv (fun j hj => U1.2.2 _ _ (fun e => by have q := wm1.1 j hj; rw [e, n8] at q; cases q) (by rw [et8]; exact (q_tu_ne (fun e => by have q := wm1.1 j hj; rw [e, n8] at q; cases q)).trans (wm1.1 j hj))) (fun j hj i => (E12 _ _ (fun e => by have q := wm1.1 j hj; rw [e, n8] at q; cases q) (by rw [et8]; exact (q_tu_ne (fun e => by have q := wm1.1 j hj; rw [e, n8] at q; cases q)).trans (wm1.1 j hj)) i).trans (by rw [es8]; exact congrArg fx_num (congrFun (q_vu_ne (fun e => by have q := wm1.1 j hj; rw [e, n8] at q; cases q)) i)))
    have wk2 : zw_M τ12 wM (fx_N σ12) := wm2.mv (fun j hj => U1.2.2 _ _ (fun e => by have q := wm2.1 j hj; rw [e, n8] at q; cases q) (by rw [et8]; exact (q_tu_ne (fun e => by have q := wm2.1 j hj; rw [e, n8] at q; cases q)).trans (wm2.1 j hj))) (fun j hj i => (E12 _ _ (fun e => by have q := wm2.1 j hj; rw [e, n8] at q; cases q) (by rw [et8]; exact (q_tu_ne (fun e => by have q := wm2.1 j hj; rw [e, n8] at q; cases q)).trans (wm2.1 j hj)) i).trans (by rw [es8]; exact congrArg fx_num (congrFun (q_vu_ne (fun e => by have q := wm2.1 j hj; rw [e, n8] at q; cases q)) i)))
    have wk3 : zw_M τ12 wO (fx_N σ12) := wm3.mv (fun j hj => U1.2.2 _ _ (fun e => by have q := wm3.1 j hj; rw [e, n8] at q; cases q) (by rw [et8]; exact (q_tu_ne (fun e => by have q := wm3.1 j hj; rw [e, n8] at q; cases q)).trans (wm3.1 j hj))) (fun j hj i => (E12 _ _ (fun e => by have q := wm3.1 j hj; rw [e, n8] at q; cases q) (by rw [et8]; exact (q_tu_ne (fun e => by have q := wm3.1 j hj; rw [e, n8] at q; cases q)).trans (wm3.1 j hj)) i).trans (by rw [es8]; exact congrArg fx_num (congrFun (q_vu_ne (fun e => by have q := wm3.1 j hj; rw [e, n8] at q; cases q)) i)))
    obtain ⟨ta, z4, -⟩ := (P4.1 h0 9 1 P4.2.1 0 (by decide)).ref (k := 110) (n := 260) rfl
    obtain ⟨tb, z6, -⟩ := (U1.1 h8 10 1 U1.2.1 3 (by decide)).ref (k := 310) (n := 260) rfl
    obtain ⟨bm, z3, -⟩ := (U1.1 h8 10 1 U1.2.1 2 (by decide)).ref (k := 102) (n := 549) rfl
    refine t_L_law τ12 σ12 h0 h8 U1.1 (U1.2.2 h0 _ N8 S8) U1.2.1 (q_wf0 U1.1 U1.2.1 U2) (q_kp0 U3) (by rw [Y9]; exact Q4) U3 br bk bt bn bm (by rw [Y9]; exact e5) (by rw [Y9]; exact e6) (by rw [Y9]; exact e7) U7 z3 ne1 ne2 ne3 (by rw [Y9]; exact R4) U6 Y6 U8 ta tb (by rw [Y9]; exact z4) z6 c0 c1 c2 g0 g1 g2 t0 t1 t2 (by rw [E6 br Y5]; exact hc3) (by rw [E6 bk YK]; exact hg3) (by rw [E6 bt YT]; exact ht3) ap1 ap2 ap3 (hz3.S (E118 c0 (zz_refT P4.1 Y5 (j := 1) (by decide) hc3.1 rfl)) (E118 c1 (zz_refT P4.1 Y5 (j := 2) (by decide) hc3.2.1 rfl)) (E118 c2 (zz_refT P4.1 Y5 (j := 3) (by decide) hc3.2.2 rfl))) UQ (zi_L.z U1.1 U1.2.1 (by rw [Y9]; exact eq3) (by rw [Y9]; exact eq4) (hlz.S (ES4 lq Ylq) (ES3 lr Ylr) (ES3 lf Ylf)) U2) (zw_L.z U1.1 U1.2.1 wk1 wk2 wk3 wa1 wa2 wa3 (by rw [Y9, wz1]; exact e5) (by rw [Y9, wz2]; exact e6) (by rw [Y9, wz3]; exact e7) U7 (by rw [Y9]; exact Q4) U3 UW) hXs hbl2 hbA hL hG (fun σ1 lv => ?_)
    refine q_widen (c2 := 600000) (s2 := 7302250) (by decide) (by decide) ?_
    subst hXe
    intro H locs ls2 g1 g2 g3
    exact va_forget (fun q hq => g2.2.2 q hq) (lw_ret hx hb hr hlocks dL_law_1454)
  subst hXe
  exact KK s.heap [] ls (fun a k n h => by cases h) va_S.rf (by rw [hml]; exact hl)
set_option maxHeartbeats 4000000 in
theorem lw_walk (l : Launch) (hflags : l.flags = flags0) (b : Addr) (xs : List Int32) : MetFree l x (headSpec (Jvm.Cond.code x code maxLocals ret :: tables_1) room_1) (lw_P b xs) (fun _ _ _ _ _ => True) lw_Q := by
  refine MetFree.of_bodyS (code := code) (maxLocals := maxLocals) (ret := ret) (by decide) ?_ ?_
  · intro args s m h hn
    obtain ⟨meth, c, h1, h2, h3, h4, h5, h6, -, -⟩ := Cond.code_spec hn (atoms_spec (ws := Jvm.Cond.code x code maxLocals ret :: tables_1) h _ List.mem_cons_self)
    exact ⟨meth, c, h1, h2, h3, h4, h5, h6⟩
  · intro p e s m args below meth c s₁ B hml0 hP _
    obtain ⟨rfl, hx, hbd, hgv⟩ := hP
    obtain ⟨scr, harrAt, hlist, hof, hsmall⟩ := hx
    obtain ⟨hcb, hkn, -, -⟩ := State.arrayAt?_spec harrAt
    have hown : s.vm.findClass R_law = some m.cls := findClass_of_methodNamed B.named
    have hts0 : ∀ c ∈ (Jvm.Cond.code x code maxLocals ret :: tables_1), c.before #[Value.ref b] s = true := atoms_spec (ws := Jvm.Cond.code x code maxLocals ret :: tables_1) B.pre
    have hts : ∀ w ∈ lw_tbl, w.before #[Value.ref b] s = true := k2_hts_sels lw_privs (fun w hw => hts0 w (List.mem_cons_of_mem _ hw)) lw_privs_ok
    have hml : c.maxLocals = 4 := B.maxLocals_eq (hts0 _ List.mem_cons_self)
    have X₀ : Stand p l e room_1 s m #[Value.ref b] below meth c s₁ [] 0 0 := Stand.of_body B
    have hh0 : s₁.heap = s.heap := by rw [B.state]; rfl
    have hsz : scr.slots.size = xs.length := by rw [← Array.length_toList, hlist, List.length_map]
    have hval : ∀ j : Nat, j < xs.length → scr.slots[j]? = some (.int (xs.getD j 0)) := fun j hj => by
      rw [← Array.getElem?_toList, hlist]
      simp [hj]
    have hbl : b < s.heap.size := (Array.getElem?_eq_some_iff.mp hcb).1
    have hX : va_X b xs.length (fun j => xs.getD j 0) s s.heap := ⟨scr, hcb, hof, hkn, hsz, hval⟩
    have K : W p l e room_1 s m #[Value.ref b] below meth c s₁.heap [] 0 0 (lw_Z below #[Value.ref b] s) (entryFrame m ([Value.ref b] : List Value).toArray 4) := by
      rw [hh0]
      exact whole_start l hflags hbd ⟨B.exec, B.bytes, B.returns, hml, hown, hts, hX, hbl, B.notSynchronized, hgv⟩
    obtain ⟨t, a1, o, b1, b2, b3⟩ := K s₁ rfl X₀
    exact ⟨t, o, a1, b1, b2, b3⟩
theorem lw_pre_spec {args : Array Value} {s : State} (h : (Jvm.Cond.and given_1 narrow_1).before args s = true) (hr : rest_1_c.before args s = true) : ∃ (b : Addr) (xs : List Int32), lw_P b xs args s := by
  have hs := flat_of_before _ h
  have hq := flat_of_before _ hr
  have hc : (Cond.count 1).before args s = true := hs _ (by decide +kernel)
  have harr : (Cond.arrayOf (.arg 0) .int).before args s = true := hs _ (by decide +kernel)
  have hle : (Cond.le (.length (.arg 0)) (.int 3072)).before args s = true := hs _ (by decide +kernel)
  have hlen : (Cond.isInt (.length (.arg 0))).before args s = true := hq _ (by decide +kernel)
  have hall : (Cond.all (.arg 0) (.isInt (.elem (.arg 0) (.index 0)))).before args s = true := hq _ (by decide +kernel)
  obtain ⟨b, xs, hb, hx⟩ := State.ints_of_pre rfl harr hlen hall
  have hsm : xs.length < 2 ^ 31 := hx.choose_spec.2.2.2
  have hev : (Term.length (.arg 0)).eval args s none [] s = some (.int xs.length.toInt32) := hx.length_eval hb
  have hv := Cond.le_ints hev (show (Term.int 3072).eval args s none [] s = some (.int 3072) from rfl)
  have hd : xs.length.toInt32 ≤ 3072 := by
    simpa [Cond.before, Cond.holds, hv] using hle
  have hN : xs.length ≤ 3072 := (Int32.ofNat_le_ofNat hsm (by decide)).mp (show Int32.ofNat xs.length ≤ Int32.ofNat 3072 from hd)
  exact ⟨b, xs, Cond.one_arg hc (show args[0]? = some (.ref b) from hb), hx, hN, h⟩
theorem lw_comes (l : Launch) (hflags : l.flags = flags0) : Comes l x (Jvm.Cond.code x code maxLocals ret :: tables_1) room_1 (fun tb e args s => Calls_1 tb e args s ∧ rest_1 tb e args s ∧ Pre_1 tb e args s)
    (fun _ _ args s o t => lw_Q args s o t) := by
  intro p e ha hc hk s m args below hf hfit hheap happ hpre
  obtain ⟨b, xs, hP⟩ := lw_pre_spec hpre.2.2 hpre.2.1
  obtain ⟨k, o, h1, h2, h3, hQ⟩ := lw_walk l hflags b xs p e ha hc hk s m args below hf ((Spec.applies_iff_loose hf).mp happ).1 hP trivial
  exact ⟨k, o, h1, h2, h3, hQ⟩
theorem lw_frame {s t : State} {o : Outcome} {args : Array Value} (h : Framed s o t [] 600000 7302250) :
    Framed s o t (fieldLocs frame_1_writes args s ++ arrayLocs frame_1_arrays args s ++ staticLocs frame_1_statics s) 600000 7302250 := h
theorem lw_limb (L : Cond) (hL : ∀ (args : Array Value) (s t : State), L.after args s (.returned (some (.int 1))) t = true) :
    ArmFor flags0 classFile x code maxLocals ret World_1 tables_1 room_1 Calls_1 rest_1 Pre_1
      (fun tb e a s o t => postC L tb e a s o t ∧ Framed s o t (fieldLocs frame_1_writes a s ++ arrayLocs frame_1_arrays a s ++ staticLocs frame_1_statics s) 600000 7302250) := by
  intro l hflags _ _ p e ha hc hk s m args below hf hfit hheap happ hpre
  obtain ⟨k, o, h1, h2, h3, rfl, hF⟩ := lw_comes l hflags p e ha hc hk s m args below hf hfit hheap happ hpre
  exact ⟨k, _, h1, h2, h3, hL args s _, lw_frame hF⟩
theorem i_vc : Claimed_1_1 ∧ Claimed_1_2 := ⟨lw_limb limb_1_1 (fun args s t => by simp [limb_1_1, Cond.after, Cond.holds, Cond.value]), lw_limb limb_1_2 (fun args s t => Cond.after_iff.mpr (by
  first | (rw [show limb_1_2 = Cond.eq .result (.int 1) from rfl, Cond.eq_ints (x := 1) (y := 1) rfl rfl]; simp; done) | (simp [limb_1_2, Cond.value, Term.eval]; done)))⟩
