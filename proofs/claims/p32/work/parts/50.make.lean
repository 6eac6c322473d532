/-! CELLS THAT ARE MADE -/
def q_tu (τ : q_T) (h : Nat) (x : Nat × Nat) : q_T := fun b => if b = h then some x else τ b
def q_vu (σ : q_V) (h : Nat) (f : Nat → Value) : q_V := fun b => if b = h then f else σ b
theorem q_tu_new {τ : q_T} {h : Nat} {x : Nat × Nat} : q_tu τ h x h = some x := by simp [q_tu]
theorem q_tu_ne {τ : q_T} {h b : Nat} {x : Nat × Nat} (hb : b ≠ h) : q_tu τ h x b = τ b := by simp [q_tu, hb]
theorem q_vu_new {σ : q_V} {h : Nat} {f : Nat → Value} : q_vu σ h f h = f := by simp [q_vu]
theorem q_vu_ne {σ : q_V} {h b : Nat} {f : Nat → Value} (hb : b ≠ h) : q_vu σ h f b = σ b := by simp [q_vu, hb]
/-- what was there is as it was -/
def q_ex (τ : q_T) (σ : q_V) (τ1 : q_T) (σ1 : q_V) : Prop := (∀ (b : Nat) (x : Nat × Nat), τ b = some x → τ1 b = some x ∧ σ1 b = σ b) ∧ ∀ b n : Nat, τ1 b = some (103, n) → τ b = some (103, n)
theorem q_v.ext {τ τ1 : q_T} {t : Nat × Int × Int} {v : Value} (he : ∀ (b : Nat) (x : Nat × Nat), τ b = some x → (x.1 < 100 → x.2 = 1) → τ1 b = some x) (h : q_v τ t v) : q_v τ1 t v := by
  rcases h with h | ⟨h1, b, h2, h3, h4⟩ | h | h
  · exact Or.inl h
  · exact Or.inr (Or.inl ⟨h1, b, h2, he b _ h3 h4, h4⟩)
  · exact Or.inr (Or.inr (Or.inl h))
  · exact Or.inr (Or.inr (Or.inr h))
theorem q_I.mk {τ : q_T} {σ : q_V} {h k n : Nat} {f : Nat → Value} (hI : q_I τ σ) (hn : τ h = none) (hf : ∀ j, j < q_lim k n → q_v τ (q_f k j) (f j)) : q_I (q_tu τ h (k, n)) (q_vu σ h f) := by
  have he : ∀ (b : Nat) (x : Nat × Nat), τ b = some x → (x.1 < 100 → x.2 = 1) → q_tu τ h (k, n) b = some x := fun b x hb _ => by
    rw [q_tu_ne (fun e => by rw [e, hn] at hb; cases hb)]
    exact hb
  intro b k2 n2 hb j hj
  by_cases e : b = h
  · subst e
    rw [q_tu_new] at hb
    cases hb
    rw [q_vu_new]
    exact (hf j hj).ext he
  · rw [q_tu_ne e] at hb
    rw [q_vu_ne e]
    exact (hI b k2 n2 hb j hj).ext he
/-- an object is made: all its fields hold what they may -/
theorem q_I.made {τ : q_T} {σ : q_V} {a k : Nat} (hI : q_I τ σ) (hk : k < 100) (hT : τ a = some (k, 0)) (hf : ∀ j, j < q_nf k → q_v (q_tu τ a (k, 1)) (q_f k j) (σ a j)) : q_I (q_tu τ a (k, 1)) σ := by
  intro b k2 n2 hb j hj
  by_cases e : b = a
  · subst e
    rw [q_tu_new] at hb
    cases hb
    exact hf j (by unfold q_lim at hj; rw [if_pos hk, if_pos rfl] at hj; exact hj)
  · rw [q_tu_ne e] at hb
    refine (hI b k2 n2 hb j hj).ext (fun b2 x h1 h2 => ?_)
    rw [q_tu_ne (fun e2 => by rw [e2, hT] at h1; cases h1; exact absurd (show (0 : Nat) = 1 from h2 hk) (by decide))]
    exact h1
/-- what a constructor has done -/
def q_X1 (k a : Nat) (τ : q_T) (σ : q_V) (τ1 : q_T) (σ1 : q_V) : Prop := q_I τ1 σ1 ∧ τ1 a = some (k, 1) ∧ (∀ (b : Nat) (x : Nat × Nat), b ≠ a → τ b = some x → τ1 b = some x ∧ (x = (9, 0) ∨ x = (4, 0) ∨ x = (118, 64) ∨ x = (4, 1) ∨ x = (3, 1) → σ1 b = σ b) ∧ (x = (6, 1) → ∀ j, j < 4 → σ1 b j = σ b j)) ∧ ∀ b n : Nat, τ1 b = some (103, n) → τ b = some (103, n)
theorem q_none {A : Nat → Prop} {D : q_D} {τ : q_T} {σ : q_V} {H : Heap} (h : q_R A D τ σ H) : τ H.size = none := by
  cases e : τ H.size with
  | none => rfl
  | some x => exact absurd ((h H.size x.1 x.2 e).2.lt) (Nat.lt_irrefl _)
theorem q_R.grow {A : Nat → Prop} {D : q_D} {τ : q_T} {σ : q_V} {H H1 : Heap} {k n : Nat} {f : Nat → Value} (h : q_R A D τ σ H) (hA : A H.size) (he : q_at D H.size k n f H1) (ho : ∀ q, q < H.size → H1[q]? = H[q]?) : q_R A D (q_tu τ H.size (k, n)) (q_vu σ H.size f) H1 := by
  intro b k2 n2 hb
  by_cases e : b = H.size
  · subst e
    rw [q_tu_new] at hb
    cases hb
    rw [q_vu_new]
    exact ⟨hA, he⟩
  · rw [q_tu_ne e] at hb
    rw [q_vu_ne e]
    obtain ⟨h1, h2⟩ := h b k2 n2 hb
    exact ⟨h1, h2.kept (ho b h2.lt)⟩
theorem q_ex.mk {τ : q_T} {σ : q_V} {h k n : Nat} {f : Nat → Value} (hn : τ h = none) (hk : k ≠ 103 ∨ False) : q_ex τ σ (q_tu τ h (k, n)) (q_vu σ h f) := by
  refine ⟨fun b x hb => ?_, fun b n2 hb => ?_⟩
  · have e : b ≠ h := fun e => by rw [e, hn] at hb; cases hb
    rw [q_tu_ne e, q_vu_ne e]
    exact ⟨hb, rfl⟩
  · by_cases e : b = h
    · subst e
      rw [q_tu_new] at hb
      cases hb
      exact absurd rfl (hk.resolve_right id)
    · rw [q_tu_ne e] at hb; exact hb
section Make
variable {X : q_X} {cc : ByteArray} {own : String} {nL : Nat} {ret : Option FieldType} {fr lo mc ms cells slots pc : Nat} {τ : q_T} {σ : q_V} {lv : List (Nat × Value)} {st : List Value}
theorem q_newA {n : Int32} {N k : Nat} {aty : ArrayType} (hG : q_G X cc own nL ret fr lo mc ms) (hw : Cond.arrayClass (newarray.typeOf aty) ∈ q_tbl) (hd : decode cc pc = .ok (.newarray aty, 2)) (hk : 100 ≤ k ∧ q_ak k < 3 ∧ q_et (q_ak k) = newarray.typeOf aty) (hn : n.toInt = (N : Int)) (hN : N ≤ 5000) (hr : cells + 1 ≤ mc ∧ slots + N ≤ ms)
    (kk : ∀ h : Nat, τ h = none → q_O X (cells + 1) (slots + N) (q_tu τ h (k, N)) (q_vu σ h (fun _ => defaultValue (newarray.typeOf aty))) (pc + 2) lv (.ref h :: st)) : q_O X cells slots τ σ pc lv (.int n :: st) := by
  obtain ⟨p, l, e, R, s, m, args, below, meth, c, Q, A, D⟩ := X
  obtain ⟨hx, hb, hre, hml, hown, hts, hK, hlk, hA, hR⟩ := hG
  intro H locs ls h1 h2 h3
  subst hR
  have hnn : ¬ n < 0 := fun q => by have := Int32.lt_iff_toInt_lt.mp q; rw [Int32.toInt_zero] at this; omega
  have hb2 : N * componentBytes (newarray.typeOf aty) ≤ 536870912 := by
    have h8 : componentBytes (newarray.typeOf aty) ≤ 8 := by cases aty <;> decide
    exact Nat.le_trans (Nat.mul_le_mul hN h8) (by decide)
  refine va_newaK (g := F0 m pc ls (.int n :: st)) hx hb (hts _ hw) rfl hd rfl hnn (by rw [q_clamp, hn]; omega) hb2 hr.1 hr.2 rfl (fun H1 cA e1 z1 o1 hAr hNm => ?_)
  have hcA : cA = D.2 (q_ak k) := by
    have hz : s.vm.findClass ("[" ++ (newarray.typeOf aty).toString) = some (D.2 (q_ak k)) := by
      rw [← hk.2.2]
      rcases (show q_ak k = 0 ∨ q_ak k = 1 ∨ q_ak k = 2 by omega) with q | q | q <;> rw [q]
      · exact (hK.1.2 0 _ rfl).2
      · exact (hK.1.2 1 _ rfl).2
      · exact (hK.1.2 2 _ rfl).2
    exact Option.some.inj (hNm.symm.trans hz)
  subst hcA
  exact kk H.size (q_none h1) H1 locs ls (h1.grow (hA _ h2.1) (Or.inr ⟨hk.1, e1⟩) o1) ⟨Nat.le_trans h2.1 (by omega), fun q g1 g2 => (o1 q (Nat.lt_of_lt_of_le g1 h2.1)).trans (h2.2.1 q g1 g2), h2.2.2⟩ h3
theorem q_newO {idx k N : Nat} {C : String} {T : u_T} {ty : Nat → FieldType} (hG : q_G X cc own nL ret fr lo mc ms) (hcl : q_cl k (C, T, N) ty) (hw1 : Cond.classLink own idx C ∈ q_tbl) (hw2 : Cond.instantiable C N ∈ q_tbl) (hw3 : Cond.initialized C ∈ q_tbl) (hd : decode cc pc = .ok (.new idx, 3)) (hr : cells + 1 ≤ mc ∧ slots + N ≤ ms)
    (kk : ∀ h : Nat, τ h = none → q_O X (cells + 1) (slots + N) (q_tu τ h (k, 0)) (q_vu σ h (fun j => defaultValue (ty j))) (pc + 3) lv (.ref h :: st)) : q_O X cells slots τ σ pc lv st := by
  obtain ⟨p, l, e, R, s, m, args, below, meth, c, Q, A, D⟩ := X
  obtain ⟨hx, hb, hre, hml, hown, hts, hK, hlk, hA, hR⟩ := hG
  obtain ⟨hk, hc, hin, hnm, hty, hnf⟩ := hcl
  intro H locs ls h1 h2 h3
  subst hR
  have hKn := hK.1.1 k _ hc
  refine W.newcK (g := F0 m pc ls st) hx hb hown (hts _ hw1) (hts _ hw2) (hts _ hw3) rfl hd hr.1 hr.2 hKn.2.1 rfl fun H1 kC hkC e1 z1 o1 => ?_
  exact kk H.size (q_none h1) H1 locs ls (h1.grow (hA _ h2.1) (Or.inl ⟨hk, _, hc, u_born ty hts hin hKn hkC e1 hty⟩) o1) ⟨Nat.le_trans h2.1 (by omega), fun q g1 g2 => (o1 q (Nat.lt_of_lt_of_le g1 h2.1)).trans (h2.2.1 q g1 g2), h2.2.2⟩ h3
theorem q_oin {idx a : Nat} (hG : q_G X cc own nL ret fr lo mc ms) (hw : Cond.methodLink own idx Lib.objectInit ∈ q_tbl) (hwi : Cond.instanceMethod Lib.objectInit ∈ q_tbl) (hwc : Cond.code Lib.objectInit ⟨#[0xb1]⟩ 1 none ∈ q_tbl) (hd : decode cc pc = .ok (.invokespecial idx, 3)) (hr : 1 ≤ fr ∧ 20 ≤ lo) (hst : (st.map fun v => v.category).sum ≤ 8)
    (kk : q_O X cells slots τ σ (pc + 3) lv st) : q_O X cells slots τ σ pc lv (.ref a :: st) := by
  obtain ⟨p, l, e, R, s, m, args, below, meth, c, Q, A, D⟩ := X
  obtain ⟨hx, hb, hre, hml, hown, hts, hK, hlk, hA, hR⟩ := hG
  intro H locs ls h1 h2 h3
  subst hR
  exact W.objInit (g := F0 m pc ls (.ref a :: st)) hx hb hown (hts _ hw) (hts _ hwi) (hts _ hwc) rfl h3.1 rfl hd hr.1 (by show 2 * 0 + _ + 12 ≤ lo; omega) (kk H locs ls h1 h2 h3)
/-- from now on a cell counts as another kind: its cell is the same -/
theorem q_retype {a k : Nat} (hT : τ a = some (k, 0)) (hk : k < 100) (kk : q_O X cells slots (q_tu τ a (k, 1)) σ pc lv st) : q_O X cells slots τ σ pc lv st := by
  obtain ⟨p, l, e, R, s, m, args, below, meth, c, Q, A, D⟩ := X
  intro H locs ls h1 h2 h3
  refine kk H locs ls (fun b k2 n2 hb => ?_) h2 h3
  by_cases e : b = a
  · subst e
    rw [q_tu_new] at hb
    cases hb
    obtain ⟨g1, g2⟩ := h1 b k 0 hT
    refine ⟨g1, ?_⟩
    rcases g2 with g2 | ⟨g2, -⟩
    · exact Or.inl g2
    · omega
  · rw [q_tu_ne e] at hb
    exact h1 b k2 n2 hb
theorem q_retypeA {a k k1 n : Nat} (hT : τ a = some (k, n)) (hk : 100 ≤ k ∧ 100 ≤ k1 ∧ q_ak k = q_ak k1) (kk : q_O X cells slots (q_tu τ a (k1, n)) σ pc lv st) : q_O X cells slots τ σ pc lv st := by
  obtain ⟨p, l, e, R, s, m, args, below, meth, c, Q, A, D⟩ := X
  intro H locs ls h1 h2 h3
  refine kk H locs ls (fun b k2 n2 hb => ?_) h2 h3
  by_cases e : b = a
  · subst e
    rw [q_tu_new] at hb
    cases hb
    obtain ⟨g1, g2⟩ := h1 b k n hT
    refine ⟨g1, ?_⟩
    rcases g2 with ⟨g2, -⟩ | ⟨g2, g3⟩
    · omega
    · exact Or.inr ⟨hk.2.1, by rw [← hk.2.2]; exact g3⟩
  · rw [q_tu_ne e] at hb
    exact h1 b k2 n2 hb
end Make
/-- the class's empty text stands where it stood -/
def q_Zn (A : Nat → Prop) (U : State) (H : Heap) : Prop := ∃ t : Nat, va_Z "WhiteLine" "NO_TEXT" "[I" (.ref t) A U H
def q_zn (X : q_X) : Prop := match X with
  | (_, _, _, _, s, _, _, _, _, _, _, A, _) => q_Zn A s s.heap
def q_PcZ (D : q_D) (sz : Nat) (τ : q_T) (σ : q_V) (av : List Value) : Array Value → State → Prop := fun v U => q_Pc D sz τ σ av v U ∧ q_Zn (q_A τ sz) U U.heap
def q_CZ {α : Type} (l : Launch) (D : q_D) (y : MethodName) (cc : ByteArray) (maxL : Nat) (ret : Option FieldType) (fr lo mc ms : Nat) (τ : q_T) (σ : q_V) (av : List Value) (emb : α → Option Value) (post : α → q_T → q_V → Prop) : Prop :=
  ∀ sz : Nat, Met l y (q_ws y cc maxL ret) { frames := fr, cells := mc, slots := ms, locals := lo } (q_PcZ D sz τ σ av) (q_Qc D (q_A τ sz) emb post) mc ms (q_A τ sz)
theorem q_PcZ.blind {D : q_D} {sz : Nat} {τ : q_T} {σ : q_V} {av : List Value} : FrameBlind (q_PcZ D sz τ σ av) := by
  intro a U g mk h
  obtain ⟨⟨h1, h2, h3, h4⟩, h5⟩ := h
  exact ⟨⟨h1, h2, h3, q_K.same (s := U) rfl h4⟩, h5⟩
theorem q_metZ {α : Type} {l : Launch} {D : q_D} {y : MethodName} {cc : ByteArray} {maxL : Nat} {ret : Option FieldType} {fr lo mc ms : Nat} {τ : q_T} {σ : q_V} {av : List Value} {emb : α → Option Value} {post : α → q_T → q_V → Prop} (hy : plainFor y = true) (hlen : (lg_sl av).length ≤ maxL)
    (body : ∀ X : q_X, q_G X cc y.cls maxL ret fr lo mc ms → q_E X mc ms emb post → (q_meth X).name = y.name → q_zn X → q_O X 0 0 τ σ 0 (lv_args 0 av) []) : q_CZ l D y cc maxL ret fr lo mc ms τ σ av emb post := by
  intro sz
  refine q_ofW (cc := cc) (maxL := maxL) (ret := ret) hy rfl ?_
  intro p e s m args below meth c s₁ B hml hv
  obtain ⟨⟨rfl, hsz, hP, hK⟩, hZ⟩ := hv
  have hts := atoms_spec (ws := q_ws y cc maxL ret) B.pre
  have hown : s.vm.findClass y.cls = some m.cls := findClass_of_methodNamed B.named
  subst hsz
  have hl := lv_entry av (n := maxL) hlen
  rw [lg_entry_eq]
  generalize (lg_sl av ++ List.replicate (maxL - (lg_sl av).length) Slot.unset).toArray = ls at hl ⊢
  have K := body (p, l, e, { frames := fr, cells := mc, slots := ms, locals := lo }, s, m, av.toArray, below, meth, c, MQ below (q_Qc D (q_A τ s.heap.size) emb post) av.toArray s mc ms (q_A τ s.heap.size), q_A τ s.heap.size, D)
    ⟨B.exec, B.bytes, B.returns, hml, hown, fun w hw => hts w (List.mem_cons_of_mem _ hw), hK, B.notSynchronized, fun q h => Or.inr h, rfl⟩ rfl (name_of_methodNamed B.named B.method).1 hZ
  exact K s.heap [] ls (fun a k n ha => ⟨Or.inl (by rw [ha]; exact fun h => by cases h), (hP a k n ha).2⟩) va_S.rf (by rw [hml]; exact hl)
theorem q_Zn.to {A B : Nat → Prop} {s U : State} {H : Heap} {locs : List Loc} (h : q_Zn A s s.heap) (hS : va_S A s.heap H locs) (hBA : ∀ q, B q → A q) (hU : U.heap = H) (hW : s.WarmedH U.vm) : q_Zn B U U.heap := by
  obtain ⟨t, hz⟩ := h
  refine ⟨t, ?_⟩
  rw [hU]
  exact ((hz.moved hW.alike).kept (fun a h1 h2 => hS.2.1 a h1 h2)).narrow hBA
theorem q_AA {A : Nat → Prop} {D : q_D} {τ : q_T} {σ : q_V} {s : State} {H : Heap} {locs : List Loc} (hR : q_R A D τ σ H) (hS : va_S A s.heap H locs) (hA : ∀ q, s.heap.size ≤ q → A q) : ∀ q, q_A τ H.size q → A q := by
  intro q h
  rcases h with h | h
  · cases hq : τ q with
    | none => exact absurd hq h
    | some x => exact (hR q x.1 x.2 hq).1
  · exact hA q (Nat.le_trans hS.1 h)
section MakeZ
variable {X : q_X} {cc : ByteArray} {own : String} {nL : Nat} {ret : Option FieldType} {fr lo mc ms cells slots pc : Nat} {τ : q_T} {σ : q_V} {lv : List (Nat × Value)} {st rest : List Value}
variable {α : Type} {emb : α → Option Value} {post : α → q_T → q_V → Prop} {y : MethodName} {bytes : ByteArray} {maxL2 fr2 lo2 mc2 ms2 idx k b n1 np : Nat}
theorem q_callIZ (As : List Value) (hG : q_G X cc own nL ret fr lo mc ms) (hZ : q_zn X) (hC : q_CZ (q_l X) (q_dd X) y bytes maxL2 none fr2 lo2 mc2 ms2 τ σ (.ref b :: As) emb post) (hy : q_cy y bytes maxL2 none np) (hyi : y.name = "<init>" ∧ Cond.instanceMethod y ∈ q_tbl) (hl : Cond.methodLink own idx y ∈ q_tbl) (hd : decode cc pc = .ok (.invokespecial idx, 3)) (hn : As.length = np) (hs : st = As.reverse ++ .ref b :: rest) (hst : (rest.map fun v => v.category).sum ≤ 8)
    (hr : fr2 + 1 ≤ fr ∧ 8 + (maxL2 + 11) + lo2 ≤ lo ∧ cells + mc2 ≤ mc ∧ slots + ms2 ≤ ms) (kk : ∀ (r : α) (τ1 : q_T) (σ1 : q_V), post r τ1 σ1 → q_O X (cells + mc2) (slots + ms2) τ1 σ1 (pc + 3) lv ((emb r).toList ++ rest)) : q_O X cells slots τ σ pc lv st := by
  obtain ⟨p, l, e, R, s, m, args, below, meth, c, Q, A, D⟩ := X
  obtain ⟨hx, hb, hre, hml, hown, hts, hK, hlk, hA, hR⟩ := hG
  obtain ⟨hcode, hini, hno⟩ := hy
  intro H locs ls h1 h2 h3
  subst hs
  subst hR
  have hS : va_Run p l e { frames := fr, cells := mc, slots := ms, locals := lo } s m args below meth c H locs cells slots mc2 ms2 (F0 m pc ls (As.reverse ++ .ref b :: rest)) rest (q_Qc D (q_A τ H.size) emb post (Value.ref b :: As).toArray) (q_A τ H.size) :=
    va_runI (nL := c.maxLocals) (b := b) ⟨hx, hb, rfl, hown, hts⟩ (hC H.size) ⟨callB_of np hts (q_good hcode) rfl rfl rfl (hts _ hini) (hts _ hl) hno ⟨hr.1, hr.2.1⟩, hyi.1, hts _ hyi.2⟩ ⟨q_PcZ.blind, fun U hU hW => ⟨q_preU hK h1 U hU hW, q_Zn.to hZ h2 (q_AA h1 h2 hA) hU hW⟩⟩ rfl hn h3.1 rfl (lv_room hst) hd ⟨hr.2.2.1, hr.2.2.2⟩
  exact q_go hS h2 h1 hA (fun r τ1 σ1 H1 locs1 hp hR1 hS1 => kk r τ1 σ1 hp H1 locs1 ls hR1 hS1 h3)
theorem q_callINZ {host : String} (As : List Value) (hG : q_G X cc own nL ret fr lo mc ms) (hZ : q_zn X) (hC : q_CZ (q_l X) (q_dd X) y bytes maxL2 none fr2 lo2 mc2 ms2 τ σ (.ref b :: As) emb post) (hy : q_cy y bytes maxL2 none np) (hyi : y.name = "<init>" ∧ Cond.instanceMethod y ∈ q_tbl) (hl : Cond.methodLinkNest own idx y host ∈ lw_tbl) (hd : decode cc pc = .ok (.invokespecial idx, 3)) (hn : As.length = np) (hs : st = As.reverse ++ .ref b :: rest) (hst : (rest.map fun v => v.category).sum ≤ 8)
    (hr : fr2 + 1 ≤ fr ∧ 8 + (maxL2 + 11) + lo2 ≤ lo ∧ cells + mc2 ≤ mc ∧ slots + ms2 ≤ ms) (kk : ∀ (r : α) (τ1 : q_T) (σ1 : q_V), post r τ1 σ1 → q_O X (cells + mc2) (slots + ms2) τ1 σ1 (pc + 3) lv ((emb r).toList ++ rest)) : q_O X cells slots τ σ pc lv st := by
  obtain ⟨p, l, e, R, s, m, args, below, meth, c, Q, A, D⟩ := X
  obtain ⟨hx, hb, hre, hml, hown, hts, hK, hlk, hA, hR⟩ := hG
  obtain ⟨hcode, hini, hno⟩ := hy
  intro H locs ls h1 h2 h3
  subst hs
  subst hR
  have hS : va_Run p l e { frames := fr, cells := mc, slots := ms, locals := lo } s m args below meth c H locs cells slots mc2 ms2 (F0 m pc ls (As.reverse ++ .ref b :: rest)) rest (q_Qc D (q_A τ H.size) emb post (Value.ref b :: As).toArray) (q_A τ H.size) :=
    va_runIN (nL := c.maxLocals) (b := b) ⟨hx, hb, rfl, hown, hts⟩ (hC H.size) ⟨va_cnB np hts (q_good hcode) rfl rfl rfl (hK.2.1 _ hl rfl) (hts _ hini) hno ⟨hr.1, hr.2.1⟩, hyi.1, hts _ hyi.2⟩ ⟨q_PcZ.blind, fun U hU hW => ⟨q_preU hK h1 U hU hW, q_Zn.to hZ h2 (q_AA h1 h2 hA) hU hW⟩⟩ rfl hn h3.1 rfl (lv_room hst) hd ⟨hr.2.2.1, hr.2.2.2⟩
  exact q_go hS h2 h1 hA (fun r τ1 σ1 H1 locs1 hp hR1 hS1 => kk r τ1 σ1 hp H1 locs1 ls hR1 hS1 h3)
theorem q_notext {host : String} (hG : q_G X cc own nL ret fr lo mc ms) (hZ : q_zn X) (hl : Cond.fieldLinkNest own idx "WhiteLine" "NO_TEXT" "[I" host ∈ lw_tbl) (hd : decode cc pc = .ok (.getstatic idx, 3)) (kk : ∀ t : Nat, q_O X cells slots τ σ (pc + 3) lv (.ref t :: st)) : q_O X cells slots τ σ pc lv st := by
  obtain ⟨p, l, e, R, s, m, args, below, meth, c, Q, A, D⟩ := X
  obtain ⟨hx, hb, hre, hml, hown, hts, hK, hlk, hA, hR⟩ := hG
  obtain ⟨t, hz⟩ := hZ
  intro H locs ls h1 h2 h3
  exact va_getsN hx hb hz h2 hown (hK.2.1 _ hl rfl) (fun _ q => q) hd (kk t H locs ls h1 h2 h3)
end MakeZ
