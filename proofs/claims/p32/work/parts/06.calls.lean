/-! CONTRACTS: a method from a state in our words to a state in our words -/
def q_A (τ : q_T) (sz : Nat) : Nat → Prop := fun q => τ q ≠ none ∨ sz ≤ q
def q_Pc (D : q_D) (sz : Nat) (τ : q_T) (σ : q_V) (av : List Value) : Array Value → State → Prop := fun v U => v = av.toArray ∧ U.heap.size = sz ∧ q_R (fun _ => True) D τ σ U.heap ∧ q_K D U
def q_Qc {α : Type} (D : q_D) (A : Nat → Prop) (emb : α → Option Value) (post : α → q_T → q_V → Prop) : Array Value → State → Outcome → State → Prop := fun _ st oc t => (∃ (r : α) (τ1 : q_T) (σ1 : q_V), oc = .returned (emb r) ∧ post r τ1 σ1 ∧ q_R A D τ1 σ1 t.heap) ∧ va_F A st t
def q_ws (y : MethodName) (cc : ByteArray) (maxL : Nat) (ret : Option FieldType) : List Cond := .code y cc maxL ret :: q_tbl
def q_C {α : Type} (l : Launch) (D : q_D) (y : MethodName) (cc : ByteArray) (maxL : Nat) (ret : Option FieldType) (fr lo mc ms : Nat) (τ : q_T) (σ : q_V) (av : List Value) (emb : α → Option Value) (post : α → q_T → q_V → Prop) : Prop :=
  ∀ sz : Nat, Met l y (q_ws y cc maxL ret) { frames := fr, cells := mc, slots := ms, locals := lo } (q_Pc D sz τ σ av) (q_Qc D (q_A τ sz) emb post) mc ms (q_A τ sz)
def q_ei : Int32 → Option Value := fun x => some (.int x)
def q_ev : Unit → Option Value := fun _ => none
def q_er : Nat → Option Value := fun a => some (.ref a)
def q_E {α : Type} (X : q_X) (mc ms : Nat) (emb : α → Option Value) (post : α → q_T → q_V → Prop) : Prop := match X with
  | (_, _, _, _, s, _, args, below, _, _, Q, A, D) => Q = MQ below (q_Qc D A emb post) args s mc ms A
abbrev q_l (X : q_X) : Launch := X.2.1
abbrev q_dd (X : q_X) : q_D := X.2.2.2.2.2.2.2.2.2.2.2.2
abbrev q_meth (X : q_X) : Method := X.2.2.2.2.2.2.2.2.1
theorem q_Pc.blind {D : q_D} {sz : Nat} {τ : q_T} {σ : q_V} {av : List Value} : FrameBlind (q_Pc D sz τ σ av) := by
  intro a U g mk h
  obtain ⟨h1, h2, h3, h4⟩ := h
  exact ⟨h1, h2, h3, q_K.same (s := U) rfl h4⟩
theorem q_ofW {l : Launch} {y : MethodName} {ws ws' : List Cond} {rm : Room} {Pc : Array Value → State → Prop} {Qc : Array Value → State → Outcome → State → Prop} {mc ms : Nat} {free : Addr → Prop} {cc : ByteArray} {maxL : Nat} {ret : Option FieldType}
    (hy : plainFor y = true) (hw : ws = Cond.code y cc maxL ret :: ws')
    (body : ∀ p e s m args below meth c s₁, BodyLoose p l y (headSpec ws rm) cc maxL ret e s m args below meth c s₁ → c.maxLocals = maxL → Pc args s →
      W p l e (headSpec ws rm).room s m args below meth c s.heap [] 0 0 (MQ below Qc args s mc ms free) (entryFrame m args maxL)) : Met l y ws rm Pc Qc mc ms free := by
  refine MetFree.of_bodySF (code := cc) (maxLocals := maxL) (ret := ret) hy ?_ ?_
  · intro args s m h hn
    obtain ⟨meth, c, h1, h2, h3, h4, h5, h6, -, -⟩ := Cond.code_spec hn (atoms_spec (ws := ws) h _ (by rw [hw]; exact List.mem_cons_self))
    exact ⟨meth, c, h1, h2, h3, h4, h5, h6⟩
  · intro p e s m args below meth c s₁ B hml hP _
    have hh0 : s₁.heap = s.heap := by rw [B.state]; rfl
    obtain ⟨t, a1, o, b1, b2, b3⟩ := body p e s m args below meth c s₁ B hml hP s₁ hh0 (Stand.of_body B)
    exact ⟨t, o, a1, b1, b2, ⟨b3.1, b3.2⟩⟩
theorem q_met {α : Type} {l : Launch} {D : q_D} {y : MethodName} {cc : ByteArray} {maxL : Nat} {ret : Option FieldType} {fr lo mc ms : Nat} {τ : q_T} {σ : q_V} {av : List Value} {emb : α → Option Value} {post : α → q_T → q_V → Prop} (hy : plainFor y = true) (hlen : (lg_sl av).length ≤ maxL)
    (body : ∀ X : q_X, q_G X cc y.cls maxL ret fr lo mc ms → q_E X mc ms emb post → (q_meth X).name = y.name → q_O X 0 0 τ σ 0 (lv_args 0 av) []) : q_C l D y cc maxL ret fr lo mc ms τ σ av emb post := by
  intro sz
  refine q_ofW (cc := cc) (maxL := maxL) (ret := ret) hy rfl ?_
  intro p e s m args below meth c s₁ B hml hv
  obtain ⟨rfl, hsz, hP, hK⟩ := hv
  have hts := atoms_spec (ws := q_ws y cc maxL ret) B.pre
  have hown : s.vm.findClass y.cls = some m.cls := findClass_of_methodNamed B.named
  subst hsz
  have hl := lv_entry av (n := maxL) hlen
  rw [lg_entry_eq]
  generalize (lg_sl av ++ List.replicate (maxL - (lg_sl av).length) Slot.unset).toArray = ls at hl ⊢
  have K := body (p, l, e, { frames := fr, cells := mc, slots := ms, locals := lo }, s, m, av.toArray, below, meth, c, MQ below (q_Qc D (q_A τ s.heap.size) emb post) av.toArray s mc ms (q_A τ s.heap.size), q_A τ s.heap.size, D)
    ⟨B.exec, B.bytes, B.returns, hml, hown, fun w hw => hts w (List.mem_cons_of_mem _ hw), hK, B.notSynchronized, fun q h => Or.inr h, rfl⟩ rfl (name_of_methodNamed B.named B.method).1
  exact K s.heap [] ls (fun a k n ha => ⟨Or.inl (by rw [ha]; exact fun h => by cases h), (hP a k n ha).2⟩) va_S.rf (by rw [hml]; exact hl)
section Ends
variable {X : q_X} {cc : ByteArray} {own : String} {nL : Nat} {fr lo mc ms cells slots pc : Nat} {τ : q_T} {σ : q_V} {lv : List (Nat × Value)} {st : List Value}
theorem q_widen {c2 s2 : Nat} (h1 : cells ≤ c2) (h2 : slots ≤ s2) (k : q_O X c2 s2 τ σ pc lv st) : q_O X cells slots τ σ pc lv st := by
  obtain ⟨p, l, e, R, s, m, args, below, meth, c, Q, A, D⟩ := X
  intro H locs ls q1 q2 q3
  exact W.widen h1 h2 (k H locs ls q1 q2 q3)
theorem q_iret {post : Int32 → q_T → q_V → Prop} {x : Int32} (hG : q_G X cc own nL (some .int) fr lo mc ms) (hE : q_E X mc ms q_ei post) (hd : decode cc pc = .ok (.ireturn, 1)) (hp : post x τ σ) : q_O X mc ms τ σ pc lv [.int x] := by
  obtain ⟨p, l, e, R, s, m, args, below, meth, c, Q, A, D⟩ := X
  obtain ⟨hx, hb, hr, hml, hown, hts, hK, hlk, hA, hR⟩ := hG
  intro H locs ls h1 h2 h3
  subst hE
  exact W.iret hx hb hr (fun t ht hW => ⟨⟨x, τ, σ, rfl, hp, by rw [ht]; exact h1⟩, h2.F ht⟩) h2.2.2 hd hlk
theorem q_zret {post : Int32 → q_T → q_V → Prop} {x : Int32} (hG : q_G X cc own nL (some .boolean) fr lo mc ms) (hE : q_E X mc ms q_ei post) (hd : decode cc pc = .ok (.ireturn, 1)) (hx1 : q_r x 0 1) (hp : post x τ σ) : q_O X mc ms τ σ pc lv [.int x] := by
  obtain ⟨p, l, e, R, s, m, args, below, meth, c, Q, A, D⟩ := X
  obtain ⟨hx, hb, hr, hml, hown, hts, hK, hlk, hA, hR⟩ := hG
  intro H locs ls h1 h2 h3
  subst hE
  exact W.zret hx hb hr (q_narrowZ hx1).1 (fun t ht hW => ⟨⟨x, τ, σ, rfl, hp, by rw [ht]; exact h1⟩, h2.F ht⟩) h2.2.2 hd hlk
theorem q_vret {post : Unit → q_T → q_V → Prop} (hG : q_G X cc own nL none fr lo mc ms) (hE : q_E X mc ms q_ev post) (hd : decode cc pc = .ok (.return_, 1)) (hp : post () τ σ) : q_O X mc ms τ σ pc lv [] := by
  obtain ⟨p, l, e, R, s, m, args, below, meth, c, Q, A, D⟩ := X
  obtain ⟨hx, hb, hr, hml, hown, hts, hK, hlk, hA, hR⟩ := hG
  intro H locs ls h1 h2 h3
  subst hE
  exact W.vret hx hb hr (fun t ht hW => ⟨⟨(), τ, σ, rfl, hp, by rw [ht]; exact h1⟩, h2.F ht⟩) h2.2.2 hd hlk
theorem q_aret {post : Nat → q_T → q_V → Prop} {a : Nat} {t : FieldType} (hG : q_G X cc own nL (some (.array t)) fr lo mc ms) (hE : q_E X mc ms q_er post) (hd : decode cc pc = .ok (.areturn, 1)) (hp : post a τ σ) : q_O X mc ms τ σ pc lv [.ref a] := by
  obtain ⟨p, l, e, R, s, m, args, below, meth, c, Q, A, D⟩ := X
  obtain ⟨hx, hb, hr, hml, hown, hts, hK, hlk, hA, hR⟩ := hG
  intro H locs ls h1 h2 h3
  subst hE
  exact W.aret hx hb hr (Or.inr ⟨_, rfl⟩) (Or.inr ⟨_, rfl⟩) (fun t ht hW => ⟨⟨a, τ, σ, rfl, hp, by rw [ht]; exact h1⟩, h2.F ht⟩) h2.2.2 hd hlk
end Ends
/-! calls -/
theorem q_go {α : Type} {p : Program} {l : Launch} {e : Env} {R : Room} {s : State} {m : MethodId} {args : Array Value} {below : List Frame} {meth : Method} {c : Code} {H : Heap} {locs : List Loc} {cells slots : Nat} {Q : State → Prop} {pc : Nat} {ls : Array Slot} {rest st0 : List Value} {a : Array Value} {A : Nat → Prop} {mc ms : Nat} {D : q_D} {emb : α → Option Value} {post : α → q_T → q_V → Prop} {τ : q_T} {σ : q_V}
    (hr : va_Run p l e R s m args below meth c H locs cells slots mc ms (F0 m pc ls st0) rest (q_Qc D (q_A τ H.size) emb post a) (q_A τ H.size)) (hS : va_S A s.heap H locs) (hR : q_R A D τ σ H) (hA : ∀ q, s.heap.size ≤ q → A q)
    (kk : ∀ (r : α) (τ1 : q_T) (σ1 : q_V) (H1 : Heap) (locs1 : List Loc), post r τ1 σ1 → q_R A D τ1 σ1 H1 → va_S A s.heap H1 locs1 → W p l e R s m args below meth c H1 locs1 (cells + mc) (slots + ms) Q (F0 m (pc + 3) ls ((emb r).toList ++ rest))) : W p l e R s m args below meth c H locs cells slots Q (F0 m pc ls st0) := by
  have hAA : ∀ q, q_A τ H.size q → A q := by
    intro q h
    rcases h with h | h
    · cases hq : τ q with
      | none => exact absurd hq h
      | some x => exact (hR q x.1 x.2 hq).1
    · exact hA q (Nat.le_trans hS.1 h)
  intro T hT X
  obtain ⟨v, st₀, t, T', L, h0, X', hL, e1, e2, ⟨⟨r, τ1, σ1, hv, hp, hb⟩, hz, hk⟩, st⟩ := hr T hT X
  cases hv
  rw [h0] at hz hk
  obtain ⟨t2, a1, b1⟩ := kk r τ1 σ1 T'.heap (locs ++ L) hp (by rw [e1]; exact hb.weaken hAA)
    ⟨Nat.le_trans hS.1 (by rw [e1]; exact hz), fun q h1 h2 => by rw [e1, hk q (Nat.lt_of_lt_of_le h1 hS.1) (fun z => h2 (hAA q z))]; exact hS.2.1 q h1 h2, fun q hq => by
      rcases List.mem_append.mp hq with h | h
      · exact hS.2.2 q h
      · exact hAA _ (hL q h)⟩ T' rfl X'
  exact ⟨t2, st t2 a1, b1⟩
theorem q_good {y : MethodName} {bytes : ByteArray} {maxL : Nat} {ret : Option FieldType} (h : Cond.code y bytes maxL ret ∈ q_tbl) : GoodIn q_tbl (q_ws y bytes maxL ret) := by
  intro w hw
  rcases List.mem_cons.mp hw with rfl | hw
  · exact ⟨h, good_of_word (q_tbl_good h)⟩
  · exact ⟨hw, good_of_word (q_tbl_good hw)⟩
/-- what the tables say of a method that is called: its code, how many arguments -/
def q_cy (y : MethodName) (bytes : ByteArray) (maxL : Nat) (ret : Option FieldType) (np : Nat) : Prop := Cond.code y bytes maxL ret ∈ q_tbl ∧ Cond.initialized y.cls ∈ q_tbl ∧ (y.cls ≠ "java/lang/invoke/MethodHandle" ∧ y.cls ≠ "java/lang/invoke/VarHandle" ∧ (parseMethodDescriptor y.desc).map (fun d => d.parameters.length) = some np)
def q_cyV (y : MethodName) (k : Nat) : Prop := Cond.instanceMethod y ∈ q_tbl ∧ Cond.selects y.cls y y ∈ q_tbl ∧ ∃ r : vw_C, vwCl[k]? = some r ∧ r.1 = y.cls
section CallRows
variable {X : q_X} {cc : ByteArray} {own : String} {nL : Nat} {ret : Option FieldType} {fr lo mc ms cells slots pc : Nat} {τ : q_T} {σ : q_V} {lv : List (Nat × Value)} {st rest : List Value}
variable {α : Type} {emb : α → Option Value} {post : α → q_T → q_V → Prop} {y : MethodName} {bytes : ByteArray} {maxL2 fr2 lo2 mc2 ms2 idx k b n1 np : Nat} {ret2 : Option FieldType}
theorem q_recv {D : q_D} {A : Nat → Prop} {H : Heap} {s : State} (hK : q_K D s) (h1 : q_R A D τ σ H) (hk : k < 100) {r : vw_C} (hc : vwCl[k]? = some r) (hT : τ b = some (k, n1)) : ∃ cellB : Cell, H[b]? = some cellB ∧ cellB.vm.isStatics = false ∧ s.vm.findClass r.1 = some cellB.cls := by
  rcases (h1 b k n1 hT).2 with ⟨-, r2, q0, cell, q1, q2, q3, q4⟩ | ⟨q0, -⟩
  · have hr2 : r2 = r := Option.some.inj (q0.symm.trans hc)
    subst hr2
    exact ⟨cell, q1, by rw [q3]; rfl, by rw [q2]; exact (hK.1.1 k _ hc).2.1⟩
  · omega
theorem q_preU {D : q_D} {A : Nat → Prop} {H : Heap} {s : State} {av : List Value} (hK : q_K D s) (h1 : q_R A D τ σ H) : ∀ U : State, U.heap = H → s.WarmedH U.vm → q_Pc D H.size τ σ av av.toArray U := fun U hU hW => ⟨rfl, by rw [hU], by rw [hU]; exact h1.true, hK.warm hW⟩
theorem q_callV (As : List Value) (hG : q_G X cc own nL ret fr lo mc ms) (hC : q_C (q_l X) (q_dd X) y bytes maxL2 ret2 fr2 lo2 mc2 ms2 τ σ (.ref b :: As) emb post) (hy : q_cy y bytes maxL2 ret2 np) (hyv : q_cyV y k) (hl : Cond.methodLink own idx y ∈ q_tbl) (hd : decode cc pc = .ok (.invokevirtual idx, 3)) (hT : τ b = some (k, n1)) (hk : k < 100) (hn : As.length = np) (hs : st = As.reverse ++ .ref b :: rest) (hst : (rest.map fun v => v.category).sum ≤ 8)
    (hr : fr2 + 1 ≤ fr ∧ 8 + (maxL2 + 11) + lo2 ≤ lo ∧ cells + mc2 ≤ mc ∧ slots + ms2 ≤ ms) (kk : ∀ (r : α) (τ1 : q_T) (σ1 : q_V), post r τ1 σ1 → q_O X (cells + mc2) (slots + ms2) τ1 σ1 (pc + 3) lv ((emb r).toList ++ rest)) : q_O X cells slots τ σ pc lv st := by
  obtain ⟨p, l, e, R, s, m, args, below, meth, c, Q, A, D⟩ := X
  obtain ⟨hx, hb, hre, hml, hown, hts, hK, hlk, hA, hR⟩ := hG
  obtain ⟨hcode, hini, hno⟩ := hy
  obtain ⟨hin, hsel, r2, hc, hcls⟩ := hyv
  intro H locs ls h1 h2 h3
  subst hs
  subst hR
  have hS : va_Run p l e { frames := fr, cells := mc, slots := ms, locals := lo } s m args below meth c H locs cells slots mc2 ms2 (F0 m pc ls (As.reverse ++ .ref b :: rest)) rest (q_Qc D (q_A τ H.size) emb post (Value.ref b :: As).toArray) (q_A τ H.size) :=
    va_runV (C := y.cls) (nL := c.maxLocals) (b := b) ⟨hx, hb, rfl, hown, hts⟩ (hC H.size) ⟨callB_of np hts (q_good hcode) rfl rfl rfl (hts _ hini) (hts _ hl) hno ⟨hr.1, hr.2.1⟩, hts _ hin, hts _ hsel⟩ ⟨q_Pc.blind, by rw [← hcls]; exact q_recv hK h1 hk hc hT, q_preU hK h1⟩ rfl hn h3.1 rfl (lv_room hst) hd ⟨hr.2.2.1, hr.2.2.2⟩
  exact q_go hS h2 h1 hA (fun r τ1 σ1 H1 locs1 hp hR1 hS1 => kk r τ1 σ1 hp H1 locs1 ls hR1 hS1 h3)
theorem q_callS (As : List Value) (hG : q_G X cc own nL ret fr lo mc ms) (hC : q_C (q_l X) (q_dd X) y bytes maxL2 ret2 fr2 lo2 mc2 ms2 τ σ As emb post) (hy : q_cy y bytes maxL2 ret2 np) (hys : Cond.static y ∈ q_tbl) (hl : Cond.methodLink own idx y ∈ q_tbl) (hd : decode cc pc = .ok (.invokestatic idx, 3)) (hn : As.length = np) (hs : st = As.reverse ++ rest) (hst : (rest.map fun v => v.category).sum ≤ 8)
    (hr : fr2 + 1 ≤ fr ∧ 8 + (maxL2 + 11) + lo2 ≤ lo ∧ cells + mc2 ≤ mc ∧ slots + ms2 ≤ ms) (kk : ∀ (r : α) (τ1 : q_T) (σ1 : q_V), post r τ1 σ1 → q_O X (cells + mc2) (slots + ms2) τ1 σ1 (pc + 3) lv ((emb r).toList ++ rest)) : q_O X cells slots τ σ pc lv st := by
  obtain ⟨p, l, e, R, s, m, args, below, meth, c, Q, A, D⟩ := X
  obtain ⟨hx, hb, hre, hml, hown, hts, hK, hlk, hA, hR⟩ := hG
  obtain ⟨hcode, hini, hno⟩ := hy
  intro H locs ls h1 h2 h3
  subst hs
  subst hR
  have hS : va_Run p l e { frames := fr, cells := mc, slots := ms, locals := lo } s m args below meth c H locs cells slots mc2 ms2 (F0 m pc ls (As.reverse ++ rest)) rest (q_Qc D (q_A τ H.size) emb post As.toArray) (q_A τ H.size) :=
    va_runS (nL := c.maxLocals) ⟨hx, hb, rfl, hown, hts⟩ (hC H.size) ⟨callB_of np hts (q_good hcode) rfl rfl rfl (hts _ hini) (hts _ hl) hno ⟨hr.1, hr.2.1⟩, hts _ hys⟩ ⟨q_Pc.blind, q_preU hK h1⟩ rfl hn h3.1 rfl (lv_room hst) hd ⟨hr.2.2.1, hr.2.2.2⟩
  exact q_go hS h2 h1 hA (fun r τ1 σ1 H1 locs1 hp hR1 hS1 => kk r τ1 σ1 hp H1 locs1 ls hR1 hS1 h3)
/-- a nest mate's private static method -/
theorem q_callSN {host : String} (As : List Value) (hG : q_G X cc own nL ret fr lo mc ms) (hC : q_C (q_l X) (q_dd X) y bytes maxL2 ret2 fr2 lo2 mc2 ms2 τ σ As emb post) (hy : q_cy y bytes maxL2 ret2 np) (hys : Cond.static y ∈ q_tbl) (hl : Cond.methodLinkNest own idx y host ∈ lw_tbl) (hd : decode cc pc = .ok (.invokestatic idx, 3)) (hn : As.length = np) (hs : st = As.reverse ++ rest) (hst : (rest.map fun v => v.category).sum ≤ 8)
    (hr : fr2 + 1 ≤ fr ∧ 8 + (maxL2 + 11) + lo2 ≤ lo ∧ cells + mc2 ≤ mc ∧ slots + ms2 ≤ ms) (kk : ∀ (r : α) (τ1 : q_T) (σ1 : q_V), post r τ1 σ1 → q_O X (cells + mc2) (slots + ms2) τ1 σ1 (pc + 3) lv ((emb r).toList ++ rest)) : q_O X cells slots τ σ pc lv st := by
  obtain ⟨p, l, e, R, s, m, args, below, meth, c, Q, A, D⟩ := X
  obtain ⟨hx, hb, hre, hml, hown, hts, hK, hlk, hA, hR⟩ := hG
  obtain ⟨hcode, hini, hno⟩ := hy
  intro H locs ls h1 h2 h3
  subst hs
  subst hR
  have hS : va_Run p l e { frames := fr, cells := mc, slots := ms, locals := lo } s m args below meth c H locs cells slots mc2 ms2 (F0 m pc ls (As.reverse ++ rest)) rest (q_Qc D (q_A τ H.size) emb post As.toArray) (q_A τ H.size) :=
    va_runSN (nL := c.maxLocals) ⟨hx, hb, rfl, hown, hts⟩ (hC H.size) ⟨va_cnB np hts (q_good hcode) rfl rfl rfl (hK.2.1 _ hl rfl) (hts _ hini) hno ⟨hr.1, hr.2.1⟩, hts _ hys, trivial⟩ ⟨q_Pc.blind, q_preU hK h1⟩ rfl hn h3.1 rfl (lv_room hst) hd ⟨hr.2.2.1, hr.2.2.2⟩
  exact q_go hS h2 h1 hA (fun r τ1 σ1 H1 locs1 hp hR1 hS1 => kk r τ1 σ1 hp H1 locs1 ls hR1 hS1 h3)
theorem q_callI (As : List Value) (hG : q_G X cc own nL ret fr lo mc ms) (hC : q_C (q_l X) (q_dd X) y bytes maxL2 none fr2 lo2 mc2 ms2 τ σ (.ref b :: As) emb post) (hy : q_cy y bytes maxL2 none np) (hyi : y.name = "<init>" ∧ Cond.instanceMethod y ∈ q_tbl) (hl : Cond.methodLink own idx y ∈ q_tbl) (hd : decode cc pc = .ok (.invokespecial idx, 3)) (hn : As.length = np) (hs : st = As.reverse ++ .ref b :: rest) (hst : (rest.map fun v => v.category).sum ≤ 8)
    (hr : fr2 + 1 ≤ fr ∧ 8 + (maxL2 + 11) + lo2 ≤ lo ∧ cells + mc2 ≤ mc ∧ slots + ms2 ≤ ms) (kk : ∀ (r : α) (τ1 : q_T) (σ1 : q_V), post r τ1 σ1 → q_O X (cells + mc2) (slots + ms2) τ1 σ1 (pc + 3) lv ((emb r).toList ++ rest)) : q_O X cells slots τ σ pc lv st := by
  obtain ⟨p, l, e, R, s, m, args, below, meth, c, Q, A, D⟩ := X
  obtain ⟨hx, hb, hre, hml, hown, hts, hK, hlk, hA, hR⟩ := hG
  obtain ⟨hcode, hini, hno⟩ := hy
  intro H locs ls h1 h2 h3
  subst hs
  subst hR
  have hS : va_Run p l e { frames := fr, cells := mc, slots := ms, locals := lo } s m args below meth c H locs cells slots mc2 ms2 (F0 m pc ls (As.reverse ++ .ref b :: rest)) rest (q_Qc D (q_A τ H.size) emb post (Value.ref b :: As).toArray) (q_A τ H.size) :=
    va_runI (nL := c.maxLocals) (b := b) ⟨hx, hb, rfl, hown, hts⟩ (hC H.size) ⟨callB_of np hts (q_good hcode) rfl rfl rfl (hts _ hini) (hts _ hl) hno ⟨hr.1, hr.2.1⟩, hyi.1, hts _ hyi.2⟩ ⟨q_Pc.blind, q_preU hK h1⟩ rfl hn h3.1 rfl (lv_room hst) hd ⟨hr.2.2.1, hr.2.2.2⟩
  exact q_go hS h2 h1 hA (fun r τ1 σ1 H1 locs1 hp hR1 hS1 => kk r τ1 σ1 hp H1 locs1 ls hR1 hS1 h3)
theorem q_callIN {host : String} (As : List Value) (hG : q_G X cc own nL ret fr lo mc ms) (hC : q_C (q_l X) (q_dd X) y bytes maxL2 none fr2 lo2 mc2 ms2 τ σ (.ref b :: As) emb post) (hy : q_cy y bytes maxL2 none np) (hyi : y.name = "<init>" ∧ Cond.instanceMethod y ∈ q_tbl) (hl : Cond.methodLinkNest own idx y host ∈ lw_tbl) (hd : decode cc pc = .ok (.invokespecial idx, 3)) (hn : As.length = np) (hs : st = As.reverse ++ .ref b :: rest) (hst : (rest.map fun v => v.category).sum ≤ 8)
    (hr : fr2 + 1 ≤ fr ∧ 8 + (maxL2 + 11) + lo2 ≤ lo ∧ cells + mc2 ≤ mc ∧ slots + ms2 ≤ ms) (kk : ∀ (r : α) (τ1 : q_T) (σ1 : q_V), post r τ1 σ1 → q_O X (cells + mc2) (slots + ms2) τ1 σ1 (pc + 3) lv ((emb r).toList ++ rest)) : q_O X cells slots τ σ pc lv st := by
  obtain ⟨p, l, e, R, s, m, args, below, meth, c, Q, A, D⟩ := X
  obtain ⟨hx, hb, hre, hml, hown, hts, hK, hlk, hA, hR⟩ := hG
  obtain ⟨hcode, hini, hno⟩ := hy
  intro H locs ls h1 h2 h3
  subst hs
  subst hR
  have hS : va_Run p l e { frames := fr, cells := mc, slots := ms, locals := lo } s m args below meth c H locs cells slots mc2 ms2 (F0 m pc ls (As.reverse ++ .ref b :: rest)) rest (q_Qc D (q_A τ H.size) emb post (Value.ref b :: As).toArray) (q_A τ H.size) :=
    va_runIN (nL := c.maxLocals) (b := b) ⟨hx, hb, rfl, hown, hts⟩ (hC H.size) ⟨va_cnB np hts (q_good hcode) rfl rfl rfl (hK.2.1 _ hl rfl) (hts _ hini) hno ⟨hr.1, hr.2.1⟩, hyi.1, hts _ hyi.2⟩ ⟨q_Pc.blind, q_preU hK h1⟩ rfl hn h3.1 rfl (lv_room hst) hd ⟨hr.2.2.1, hr.2.2.2⟩
  exact q_go hS h2 h1 hA (fun r τ1 σ1 H1 locs1 hp hR1 hS1 => kk r τ1 σ1 hp H1 locs1 ls hR1 hS1 h3)
end CallRows
/-! switches -/
section Sw
variable {X : q_X} {cc : ByteArray} {own : String} {nL : Nat} {ret : Option FieldType} {fr lo mc ms cells slots pc : Nat} {τ : q_T} {σ : q_V} {lv : List (Nat × Value)} {st : List Value} {x : Int32}
theorem q_tsOut {dflt l0 h0 : Int} {offs : Array Int} {len : Nat} (tgt : Nat) (hG : q_G X cc own nL ret fr lo mc ms) (hd : decode cc pc = .ok (.tableswitch dflt l0 h0 offs, len)) (h : x.toInt < l0 ∨ h0 < x.toInt) (ht : (pc : Int) + dflt = (tgt : Int)) (k : q_O X cells slots τ σ tgt lv st) : q_O X cells slots τ σ pc lv (.int x :: st) := by
  obtain ⟨p, l, e, R, s, m, args, below, meth, c, Q, A, D⟩ := X
  obtain ⟨hx, hb, hr, hml, hown, hts, hK, hlk, hA, hR⟩ := hG
  intro H locs ls h1 h2 h3
  exact lv_tableOut hx hb hd h ht (k H locs ls h1 h2 h3)
theorem q_tsIn {dflt l0 h0 : Int} {offs : Array Int} {len : Nat} (v : Int) {off : Int} (tgt : Nat) (hG : q_G X cc own nL ret fr lo mc ms) (hd : decode cc pc = .ok (.tableswitch dflt l0 h0 offs, len)) (hv : x.toInt = v) (h : l0 ≤ v ∧ v ≤ h0) (ho : offs[(v - l0).toNat]? = some off) (ht : (pc : Int) + off = (tgt : Int)) (k : q_O X cells slots τ σ tgt lv st) : q_O X cells slots τ σ pc lv (.int x :: st) := by
  obtain ⟨p, l, e, R, s, m, args, below, meth, c, Q, A, D⟩ := X
  obtain ⟨hx, hb, hr, hml, hown, hts, hK, hlk, hA, hR⟩ := hG
  intro H locs ls h1 h2 h3
  exact lv_tableIn hx hb hd (by omega) (by omega) (by rw [hv]; exact ho) ht (k H locs ls h1 h2 h3)
theorem q_ls {dflt : Int} {ps : Array (Int × Int)} {len : Nat} {off : Int} (tgt : Nat) (hG : q_G X cc own nL ret fr lo mc ms) (hd : decode cc pc = .ok (.lookupswitch dflt ps, len)) (hp : (ps.toList.zip (ps.toList.drop 1)).all (fun (a, next) => a.1 < next.1) = true) (ho : Op.lookupswitch.offset ps.toList dflt x.toInt = off) (ht : (pc : Int) + off = (tgt : Int)) (k : q_O X cells slots τ σ tgt lv st) : q_O X cells slots τ σ pc lv (.int x :: st) := by
  obtain ⟨p, l, e, R, s, m, args, below, meth, c, Q, A, D⟩ := X
  obtain ⟨hx, hb, hr, hml, hown, hts, hK, hlk, hA, hR⟩ := hG
  intro H locs ls h1 h2 h3
  exact lv_lookup hx hb hd hp ho ht (k H locs ls h1 h2 h3)
end Sw
