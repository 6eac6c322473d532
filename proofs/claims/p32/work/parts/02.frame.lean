/-! A STATE IN OUR WORDS: which cells there are (an address has a kind and a length), and what they hold (an address and a place have a value) -/
abbrev q_T : Type := Nat → Option (Nat × Nat)
abbrev q_V : Type := Nat → Nat → Value
abbrev q_D : Type := va_G × (Nat → ClassId)
/-- the element type of an array's kind: 100 to 199 int, 200 to 299 boolean, 300 to 399 byte, from 400 on int[] -/
def q_et : Nat → FieldType := fun j => match j with
  | 0 => .int
  | 1 => .boolean
  | 2 => .byte
  | _ => .array .int
def q_ak (k : Nat) : Nat := if k < 200 then 0 else if k < 300 then 1 else if k < 400 then 2 else 3
def q_at (D : q_D) (a k n : Nat) (f : Nat → Value) (H : Heap) : Prop :=
  (k < 100 ∧ ∃ r : vw_C, vwCl[k]? = some r ∧ t_OB a (D.1.1 k) r.2.2 (D.1.2 k) H f) ∨ (100 ≤ k ∧ H[a]? = some (arrV (D.2 (q_ak k)) n f))
def q_R (A : Nat → Prop) (D : q_D) (τ : q_T) (σ : q_V) (H : Heap) : Prop := ∀ a k n : Nat, τ a = some (k, n) → A a ∧ q_at D a k n (σ a) H
def q_up (σ : q_V) (a j : Nat) (v : Value) : q_V := fun b => if b = a then updV (σ a) j v else σ b
theorem q_up_same {σ : q_V} {a j : Nat} {v : Value} : q_up σ a j v a j = v := by simp [q_up, updV]
theorem q_up_slot {σ : q_V} {a j i : Nat} {v : Value} (h : i ≠ j) : q_up σ a j v a i = σ a i := by simp [q_up, updV, h]
theorem q_up_ne {σ : q_V} {a b j : Nat} {v : Value} (h : b ≠ a) : q_up σ a j v b = σ b := by simp [q_up, h]
theorem q_up_else {σ : q_V} {a b j i : Nat} {v : Value} (h : b ≠ a ∨ i ≠ j) : q_up σ a j v b i = σ b i := by
  by_cases hb : b = a
  · subst hb
    exact q_up_slot (h.resolve_left (fun q => q rfl))
  · rw [q_up_ne hb]
theorem q_at.lt {D : q_D} {a k n : Nat} {f : Nat → Value} {H : Heap} (h : q_at D a k n f H) : a < H.size := by
  rcases h with ⟨-, r, -, cell, h1, -⟩ | ⟨-, h1⟩
  · exact (Array.getElem?_eq_some_iff.mp h1).1
  · exact (Array.getElem?_eq_some_iff.mp h1).1
theorem q_at.kept {D : q_D} {a k n : Nat} {f : Nat → Value} {H H1 : Heap} (h : q_at D a k n f H) (hq : H1[a]? = H[a]?) : q_at D a k n f H1 := by
  rcases h with ⟨h0, r, h1, h2⟩ | ⟨h0, h1⟩
  · exact Or.inl ⟨h0, r, h1, h2.kept hq⟩
  · exact Or.inr ⟨h0, by rw [hq]; exact h1⟩
/-- one cell anew, all others as they were -/
theorem q_R.set {A : Nat → Prop} {D : q_D} {τ : q_T} {σ σ' : q_V} {H H1 : Heap} {a k n : Nat} (h : q_R A D τ σ H) (hT : τ a = some (k, n)) (he : q_at D a k n (σ' a) H1) (ho : ∀ q : Nat, q ≠ a → H1[q]? = H[q]?) (hs : ∀ b, b ≠ a → σ' b = σ b) : q_R A D τ σ' H1 := by
  intro b k2 n2 hb
  by_cases hba : b = a
  · subst hba
    rw [hT] at hb
    cases hb
    exact ⟨(h b k n hT).1, he⟩
  · obtain ⟨h1, h2⟩ := h b k2 n2 hb
    rw [hs b hba]
    exact ⟨h1, h2.kept (ho b hba)⟩
theorem q_R.weaken {A B : Nat → Prop} {D : q_D} {τ : q_T} {σ : q_V} {H : Heap} (h : q_R A D τ σ H) (hAB : ∀ q, A q → B q) : q_R B D τ σ H := fun a k n ha => ⟨hAB a (h a k n ha).1, (h a k n ha).2⟩
theorem q_R.true {A : Nat → Prop} {D : q_D} {τ : q_T} {σ : q_V} {H : Heap} (h : q_R A D τ σ H) : q_R (fun _ => True) D τ σ H := h.weaken (fun _ _ => trivial)
/-- what the tables say -/
def q_nest : Cond → Bool
  | .methodLinkNest .. => true
  | .fieldLinkNest .. => true
  | _ => false
abbrev q_tys (D : q_D) : List (ClassId × FieldType) := [(D.2 0, q_et 0), (D.2 1, q_et 1), (D.2 2, q_et 2), (D.2 3, q_et 3)]
/-- rows of rows: their rows are rows of numbers -/
def q_AO (D : q_D) (U : State) : Prop := ∃ k1 : Class, U.vm.classes[D.2 3]? = some k1 ∧ k1.kind = .array (D.2 0) (.array .int)
theorem q_AO.moved {D : q_D} {s U : State} (hvm : s.vm.Alike U.vm) (h : q_AO D s) : q_AO D U := by
  obtain ⟨k1, h1, h2⟩ := h
  obtain ⟨k2, h3, h4⟩ := hvm.2.2 _ _ h1
  exact ⟨k2, h3, by rw [h4]; exact h2⟩
def q_K (D : q_D) (U : State) : Prop := va_K D.1 vwCl (q_tys D) U ∧ (∀ w ∈ lw_tbl, q_nest w = true → va_Nw w U) ∧ q_AO D U
theorem q_nest_warm {w : Cond} {s U : State} (hW : s.WarmedH U.vm) (hn : q_nest w = true) (h : va_Nw w s) : va_Nw w U := by
  cases w <;> first | exact va_Nw.warmM hW h | exact va_Nw.warmF hW h | exact absurd hn (by simp [q_nest])
theorem q_nest_same {w : Cond} {s U : State} (hv : s.vm = U.vm) (hn : q_nest w = true) (h : va_Nw w s) : va_Nw w U := by
  cases w <;> first | exact va_Nw.same rfl hv h | exact absurd hn (by simp [q_nest])
theorem q_K.warm {D : q_D} {s U : State} (hW : s.WarmedH U.vm) (h : q_K D s) : q_K D U := ⟨va_K.moved hW.alike h.1, fun w hw hn => q_nest_warm hW hn (h.2.1 w hw hn), h.2.2.moved hW.alike⟩
theorem q_K.same {D : q_D} {s U : State} (hv : s.vm = U.vm) (h : q_K D s) : q_K D U := ⟨va_K.moved (by rw [hv]; exact Vm.Alike.refl _) h.1, fun w hw hn => q_nest_same hv hn (h.2.1 w hw hn), h.2.2.moved (by rw [hv]; exact Vm.Alike.refl _)⟩
/-! THE JUDGEMENT: from this program counter, with these locals and this stack, over a heap that holds the state: the machine comes to the end that the method owes -/
abbrev q_X : Type := Program × Launch × Env × Room × State × MethodId × Array Value × List Frame × Method × Code × (State → Prop) × (Nat → Prop) × q_D
def q_O (X : q_X) (cells slots : Nat) (τ : q_T) (σ : q_V) (pc : Nat) (lv : List (Nat × Value)) (st : List Value) : Prop := match X with
  | (p, l, e, R, s, m, args, below, meth, c, Q, A, D) => ∀ (H : Heap) (locs : List Loc) (ls : Array Slot), q_R A D τ σ H → va_S A s.heap H locs → lv_has ls c.maxLocals lv → W p l e R s m args below meth c H locs cells slots Q (F0 m pc ls st)
def q_G (X : q_X) (cc : ByteArray) (own : String) (nL : Nat) (ret : Option FieldType) (fr lo mc ms : Nat) : Prop := match X with
  | (p, _, _, R, s, m, args, _, meth, c, _, A, D) => p.tables.exec = Jvm.exec ∧ c.code = cc ∧ meth.sig.returnType = ret ∧ c.maxLocals = nL ∧ s.vm.findClass own = some m.cls ∧ (∀ w ∈ q_tbl, w.before args s = true) ∧ q_K D s ∧ meth.locks = false ∧ (∀ q, s.heap.size ≤ q → A q) ∧ R = { frames := fr, cells := mc, slots := ms, locals := lo }
section Rows
variable {X : q_X} {cc : ByteArray} {own : String} {nL : Nat} {ret : Option FieldType} {fr lo mc ms cells slots pc : Nat} {τ : q_T} {σ : q_V} {lv : List (Nat × Value)} {st : List Value}
theorem q_iconst {n : Int} {v : Int32} (hG : q_G X cc own nL ret fr lo mc ms) (hd : decode cc pc = .ok (.iconst n, 1)) (hv : Int32.ofInt n = v) (k : q_O X cells slots τ σ (pc + 1) lv (.int v :: st)) : q_O X cells slots τ σ pc lv st := by
  obtain ⟨p, l, e, R, s, m, args, below, meth, c, Q, A, D⟩ := X
  obtain ⟨hx, hb, hr, hml, hown, hts, hK, hlk, hA, hR⟩ := hG
  intro H locs ls h1 h2 h3
  exact lv_iconst hx hb hd hv (k H locs ls h1 h2 h3)
theorem q_bipush {n : Int} {v : Int32} (hG : q_G X cc own nL ret fr lo mc ms) (hd : decode cc pc = .ok (.bipush n, 2)) (hv : (Int8.ofInt n).toInt32 = v) (k : q_O X cells slots τ σ (pc + 2) lv (.int v :: st)) : q_O X cells slots τ σ pc lv st := by
  obtain ⟨p, l, e, R, s, m, args, below, meth, c, Q, A, D⟩ := X
  obtain ⟨hx, hb, hr, hml, hown, hts, hK, hlk, hA, hR⟩ := hG
  intro H locs ls h1 h2 h3
  exact lv_bipush hx hb hd hv (k H locs ls h1 h2 h3)
theorem q_sipush {n : Int} {v : Int32} (hG : q_G X cc own nL ret fr lo mc ms) (hd : decode cc pc = .ok (.sipush n, 3)) (hv : (Int16.ofInt n).toInt32 = v) (k : q_O X cells slots τ σ (pc + 3) lv (.int v :: st)) : q_O X cells slots τ σ pc lv st := by
  obtain ⟨p, l, e, R, s, m, args, below, meth, c, Q, A, D⟩ := X
  obtain ⟨hx, hb, hr, hml, hown, hts, hK, hlk, hA, hR⟩ := hG
  intro H locs ls h1 h2 h3
  exact lv_sipush hx hb hd hv (k H locs ls h1 h2 h3)
theorem q_ldc {idx : Nat} {v : Int32} (hG : q_G X cc own nL ret fr lo mc ms) (hw : Cond.constant own idx v ∈ q_tbl) (hd : decode cc pc = .ok (.ldc idx, 2)) (k : q_O X cells slots τ σ (pc + 2) lv (.int v :: st)) : q_O X cells slots τ σ pc lv st := by
  obtain ⟨p, l, e, R, s, m, args, below, meth, c, Q, A, D⟩ := X
  obtain ⟨hx, hb, hr, hml, hown, hts, hK, hlk, hA, hR⟩ := hG
  intro H locs ls h1 h2 h3
  exact lv_ldc hx hb hown (hts _ hw) hd (k H locs ls h1 h2 h3)
theorem q_ldcw {idx : Nat} {v : Int32} (hG : q_G X cc own nL ret fr lo mc ms) (hw : Cond.constant own idx v ∈ q_tbl) (hd : decode cc pc = .ok (.ldc_w idx, 3)) (k : q_O X cells slots τ σ (pc + 3) lv (.int v :: st)) : q_O X cells slots τ σ pc lv st := by
  obtain ⟨p, l, e, R, s, m, args, below, meth, c, Q, A, D⟩ := X
  obtain ⟨hx, hb, hr, hml, hown, hts, hK, hlk, hA, hR⟩ := hG
  intro H locs ls h1 h2 h3
  exact lv_ldcw hx hb hown (hts _ hw) hd (k H locs ls h1 h2 h3)
theorem q_null (hG : q_G X cc own nL ret fr lo mc ms) (hd : decode cc pc = .ok (.aconst_null, 1)) (k : q_O X cells slots τ σ (pc + 1) lv (.null :: st)) : q_O X cells slots τ σ pc lv st := by
  obtain ⟨p, l, e, R, s, m, args, below, meth, c, Q, A, D⟩ := X
  obtain ⟨hx, hb, hr, hml, hown, hts, hK, hlk, hA, hR⟩ := hG
  intro H locs ls h1 h2 h3
  exact lv_null hx hb hd (k H locs ls h1 h2 h3)
theorem q_iload_n {i : Fin 4} {x : Int32} (hG : q_G X cc own nL ret fr lo mc ms) (hd : decode cc pc = .ok (.iload_n i, 1)) (j : Nat) (hj : lv[j]? = some ((i : Nat), .int x)) (k : q_O X cells slots τ σ (pc + 1) lv (.int x :: st)) : q_O X cells slots τ σ pc lv st := by
  obtain ⟨p, l, e, R, s, m, args, below, meth, c, Q, A, D⟩ := X
  obtain ⟨hx, hb, hr, hml, hown, hts, hK, hlk, hA, hR⟩ := hG
  intro H locs ls h1 h2 h3
  exact lv_iload_n hx hb hd rfl (lv_at h3 j hj) (k H locs ls h1 h2 h3)
theorem q_iload {i : Nat} {x : Int32} (hG : q_G X cc own nL ret fr lo mc ms) (hd : decode cc pc = .ok (.iload i, 2)) (j : Nat) (hj : lv[j]? = some (i, .int x)) (k : q_O X cells slots τ σ (pc + 2) lv (.int x :: st)) : q_O X cells slots τ σ pc lv st := by
  obtain ⟨p, l, e, R, s, m, args, below, meth, c, Q, A, D⟩ := X
  obtain ⟨hx, hb, hr, hml, hown, hts, hK, hlk, hA, hR⟩ := hG
  intro H locs ls h1 h2 h3
  exact lv_iload hx hb hd (lv_at h3 j hj) (k H locs ls h1 h2 h3)
theorem q_aload_n {i : Fin 4} {x : Nat} (hG : q_G X cc own nL ret fr lo mc ms) (hd : decode cc pc = .ok (.aload_n i, 1)) (j : Nat) (hj : lv[j]? = some ((i : Nat), .ref x)) (k : q_O X cells slots τ σ (pc + 1) lv (.ref x :: st)) : q_O X cells slots τ σ pc lv st := by
  obtain ⟨p, l, e, R, s, m, args, below, meth, c, Q, A, D⟩ := X
  obtain ⟨hx, hb, hr, hml, hown, hts, hK, hlk, hA, hR⟩ := hG
  intro H locs ls h1 h2 h3
  exact lv_aload_n hx hb hd rfl (lv_at h3 j hj) (k H locs ls h1 h2 h3)
theorem q_istore_n {i : Fin 4} {x : Int32} (lv' : List (Nat × Value)) (hG : q_G X cc own nL ret fr lo mc ms) (hd : decode cc pc = .ok (.istore_n i, 1)) (hn : (i : Nat) < nL) (hl : ((i : Nat), Value.int x) :: lv.filter (fun q => !(q.1 == (i : Nat)) && !(q.1 + 1 == (i : Nat) && q.2.category == 2)) = lv') (k : q_O X cells slots τ σ (pc + 1) lv' st) : q_O X cells slots τ σ pc lv (.int x :: st) := by
  obtain ⟨p, l, e, R, s, m, args, below, meth, c, Q, A, D⟩ := X
  obtain ⟨hx, hb, hr, hml, hown, hts, hK, hlk, hA, hR⟩ := hG
  intro H locs ls h1 h2 h3
  exact lv_istore_n hx hb hd rfl h3 (by rw [hml]; exact hn) hl (fun ls' h => k H locs ls' h1 h2 h)
theorem q_istore {i : Nat} {x : Int32} (lv' : List (Nat × Value)) (hG : q_G X cc own nL ret fr lo mc ms) (hd : decode cc pc = .ok (.istore i, 2)) (hn : i < nL) (hl : (i, Value.int x) :: lv.filter (fun q => !(q.1 == i) && !(q.1 + 1 == i && q.2.category == 2)) = lv') (k : q_O X cells slots τ σ (pc + 2) lv' st) : q_O X cells slots τ σ pc lv (.int x :: st) := by
  obtain ⟨p, l, e, R, s, m, args, below, meth, c, Q, A, D⟩ := X
  obtain ⟨hx, hb, hr, hml, hown, hts, hK, hlk, hA, hR⟩ := hG
  intro H locs ls h1 h2 h3
  exact lv_istore hx hb hd h3 (by rw [hml]; exact hn) hl (fun ls' h => k H locs ls' h1 h2 h)
theorem q_astore_n {i : Fin 4} {x : Nat} (lv' : List (Nat × Value)) (hG : q_G X cc own nL ret fr lo mc ms) (hd : decode cc pc = .ok (.astore_n i, 1)) (hn : (i : Nat) < nL) (hl : ((i : Nat), Value.ref x) :: lv.filter (fun q => !(q.1 == (i : Nat)) && !(q.1 + 1 == (i : Nat) && q.2.category == 2)) = lv') (k : q_O X cells slots τ σ (pc + 1) lv' st) : q_O X cells slots τ σ pc lv (.ref x :: st) := by
  obtain ⟨p, l, e, R, s, m, args, below, meth, c, Q, A, D⟩ := X
  obtain ⟨hx, hb, hr, hml, hown, hts, hK, hlk, hA, hR⟩ := hG
  intro H locs ls h1 h2 h3
  exact lv_astore_n hx hb hd rfl h3 (by rw [hml]; exact hn) hl (fun ls' h => k H locs ls' h1 h2 h)
theorem q_iinc {i : Nat} {n : Int} {x z : Int32} (lv' : List (Nat × Value)) (hG : q_G X cc own nL ret fr lo mc ms) (hd : decode cc pc = .ok (.iinc i n, 3)) (j : Nat) (hj : lv[j]? = some (i, .int x)) (hz : z = x + Int32.ofInt n) (hn : i < nL) (hl : (i, Value.int z) :: lv.filter (fun q => !(q.1 == i) && !(q.1 + 1 == i && q.2.category == 2)) = lv') (k : q_O X cells slots τ σ (pc + 3) lv' st) : q_O X cells slots τ σ pc lv st := by
  obtain ⟨p, l, e, R, s, m, args, below, meth, c, Q, A, D⟩ := X
  obtain ⟨hx, hb, hr, hml, hown, hts, hK, hlk, hA, hR⟩ := hG
  intro H locs ls h1 h2 h3
  exact lv_iinc hx hb hd h3 hj hz.symm (by rw [hml]; exact hn) hl (fun ls' h => k H locs ls' h1 h2 h)
theorem q_lv {lv2 : List (Nat × Value)} (ks : List Nat) (hl : lv_pick lv ks = lv2) (k : q_O X cells slots τ σ pc lv2 st) : q_O X cells slots τ σ pc lv st := by
  obtain ⟨p, l, e, R, s, m, args, below, meth, c, Q, A, D⟩ := X
  intro H locs ls h1 h2 h3
  exact k H locs ls h1 h2 (lv_sub h3 ks hl)
theorem q_dup {v : Value} (hG : q_G X cc own nL ret fr lo mc ms) (hd : decode cc pc = .ok (.dup, 1)) (hv : v.category = 1) (k : q_O X cells slots τ σ (pc + 1) lv (v :: v :: st)) : q_O X cells slots τ σ pc lv (v :: st) := by
  obtain ⟨p, l, e, R, s, m, args, below, meth, c, Q, A, D⟩ := X
  obtain ⟨hx, hb, hr, hml, hown, hts, hK, hlk, hA, hR⟩ := hG
  intro H locs ls h1 h2 h3
  exact lv_dup hx hb hd hv (k H locs ls h1 h2 h3)
theorem q_dup2 {v w : Value} (hG : q_G X cc own nL ret fr lo mc ms) (hd : decode cc pc = .ok (.dup2, 1)) (hv : v.category = 1) (hw : w.category = 1) (k : q_O X cells slots τ σ (pc + 1) lv (v :: w :: v :: w :: st)) : q_O X cells slots τ σ pc lv (v :: w :: st) := by
  obtain ⟨p, l, e, R, s, m, args, below, meth, c, Q, A, D⟩ := X
  obtain ⟨hx, hb, hr, hml, hown, hts, hK, hlk, hA, hR⟩ := hG
  intro H locs ls h1 h2 h3
  exact lv_dup2_11 hx hb hd hv hw (k H locs ls h1 h2 h3)
theorem q_pop {v : Value} (hG : q_G X cc own nL ret fr lo mc ms) (hd : decode cc pc = .ok (.pop, 1)) (hv : v.category = 1) (k : q_O X cells slots τ σ (pc + 1) lv st) : q_O X cells slots τ σ pc lv (v :: st) := by
  obtain ⟨p, l, e, R, s, m, args, below, meth, c, Q, A, D⟩ := X
  obtain ⟨hx, hb, hr, hml, hown, hts, hK, hlk, hA, hR⟩ := hG
  intro H locs ls h1 h2 h3
  exact lv_pop hx hb hd hv (k H locs ls h1 h2 h3)
theorem q_goto {off : Int} (tgt : Nat) (hG : q_G X cc own nL ret fr lo mc ms) (hd : decode cc pc = .ok (.goto off, 3)) (ht : (pc : Int) + off = (tgt : Int)) (k : q_O X cells slots τ σ tgt lv st) : q_O X cells slots τ σ pc lv st := by
  obtain ⟨p, l, e, R, s, m, args, below, meth, c, Q, A, D⟩ := X
  obtain ⟨hx, hb, hr, hml, hown, hts, hK, hlk, hA, hR⟩ := hG
  intro H locs ls h1 h2 h3
  exact lv_goto hx hb hd ht (k H locs ls h1 h2 h3)
theorem q_ifnullR {off : Int} {a : Nat} (hG : q_G X cc own nL ret fr lo mc ms) (hd : decode cc pc = .ok (.ifnull off, 3)) (k : q_O X cells slots τ σ (pc + 3) lv st) : q_O X cells slots τ σ pc lv (.ref a :: st) := by
  obtain ⟨p, l, e, R, s, m, args, below, meth, c, Q, A, D⟩ := X
  obtain ⟨hx, hb, hr, hml, hown, hts, hK, hlk, hA, hR⟩ := hG
  intro H locs ls h1 h2 h3
  exact lv_ifnull hx hb hd (k H locs ls h1 h2 h3)
end Rows
