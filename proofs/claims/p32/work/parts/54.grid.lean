/-! rows of rows: five rows of sixty-five numbers, made at once -/
/-- what the word says: the class of rows of rows, its rows' class -/
theorem q_ao {args : Array Value} {s : State} (h : (Cond.arrayOver (.array .int)).before args s = true) : ∃ (c1 c2 : ClassId) (k1 : Class), s.vm.findClass "[I" = some c2 ∧ s.vm.classes[c1]? = some k1 ∧ k1.kind = .array c2 (.array .int) ∧ s.vm.findClass "[[I" = some c1 := by
  have hn : (FieldType.array .int).toString = "[I" := by decide
  have hn2 : "[" ++ (FieldType.array .int).toString = "[[I" := by decide
  simp only [Cond.before, Cond.holds, Cond.value, beq_iff_eq] at h
  cases hc : s.vm.findClass (FieldType.array .int).toString with
  | none => simp [hc] at h
  | some c2 =>
    simp only [hc, Option.bind_some, Option.bind_eq_some_iff, Option.map_eq_some_iff] at h
    obtain ⟨c1, hi, k1, hk, hb⟩ := h
    obtain ⟨hlt, hp, -⟩ := Array.findIdx?_eq_some_iff_getElem.mp hi
    rw [(Array.getElem?_eq_some_iff.mp hk).2] at hp
    cases hkd : k1.kind with
    | array c3 ty =>
      rw [hkd] at hb hp
      simp only [beq_iff_eq] at hp
      simp only [Bool.and_eq_true, decide_eq_true_eq] at hb
      refine ⟨c1, c2, k1, by rw [← hn]; exact hc, hk, by rw [hkd, hp, hb.1], by rw [← hn2]; exact hb.2⟩
    | _ => rw [hkd] at hb; simp at hb
/-- the first i rows are laid in -/
def q_gf (h i : Nat) : Nat → Value := fun j => if j < i then .ref (h + 1 + j) else .null
theorem q_gf_s (h i : Nat) : updV (q_gf h i) i (.ref (h + 1 + i)) = q_gf h (i + 1) := by
  funext j
  unfold q_gf updV
  by_cases e : j = i
  · subst e; simp
  · by_cases e2 : j < i
    · simp [e, e2, show j < i + 1 by omega]
    · simp [e, e2, show ¬ j < i + 1 by omega]
def q_gs (T : State) (c1 c2 : ClassId) : Nat → State
  | 0 => T.pushCell (arrV c1 5 (q_gf T.heap.size 0))
  | i + 1 => ((q_gs T c1 c2 i).pushCell (arrV c2 65 (fun _ => .int 0))).setCell T.heap.size (arrV c1 5 (q_gf T.heap.size (i + 1)))
theorem q_gs_f (T : State) (c1 c2 : ClassId) : ∀ i : Nat, (q_gs T c1 c2 i).heap.size = T.heap.size + 1 + i ∧ (q_gs T c1 c2 i).heap[T.heap.size]? = some (arrV c1 5 (q_gf T.heap.size i)) ∧ (q_gs T c1 c2 i).vm = T.vm ∧ (q_gs T c1 c2 i).slotsUsed = T.slotsUsed + 5 + i * 65 ∧
    (∀ a, a < T.heap.size → (q_gs T c1 c2 i).heap[a]? = T.heap[a]?) ∧ ∀ j, j < i → (q_gs T c1 c2 i).heap[T.heap.size + 1 + j]? = some (arrV c2 65 (fun _ => .int 0))
  | 0 => by
    refine ⟨by simp [q_gs], by simp [q_gs], rfl, ?_, fun a ha => State.heap_pushCell_of_lt _ _ ha, fun j hj => absurd hj (Nat.not_lt_zero j)⟩
    show T.slotsUsed + (arrV c1 5 (q_gf T.heap.size 0)).slots.size = _
    rw [arrV_size]
  | i + 1 => by
    obtain ⟨g1, g2, g3, g4, g5, g6⟩ := q_gs_f T c1 c2 i
    have hlt : ∀ a, a < T.heap.size + 1 + i → ((q_gs T c1 c2 i).pushCell (arrV c2 65 (fun _ => .int 0))).heap[a]? = (q_gs T c1 c2 i).heap[a]? := fun a ha => State.heap_pushCell_of_lt _ _ (by rw [g1]; exact ha)
    have hc : ((q_gs T c1 c2 i).pushCell (arrV c2 65 (fun _ => .int 0))).heap[T.heap.size]? = some (arrV c1 5 (q_gf T.heap.size i)) := by rw [hlt _ (by omega)]; exact g2
    refine ⟨?_, State.heap_setCell_self hc, g3, ?_, fun a ha => ?_, fun j hj => ?_⟩
    · show (Array.setIfInBounds _ _ _).size = _
      rw [Array.size_setIfInBounds]
      show (Array.push _ _).size = _
      rw [Array.size_push, g1]
      omega
    · show (q_gs T c1 c2 i).slotsUsed + (arrV c2 65 (fun _ => .int 0)).slots.size = _
      rw [arrV_size, g4]
      omega
    · show (((q_gs T c1 c2 i).pushCell (arrV c2 65 (fun _ => .int 0))).setCell T.heap.size _).heap[a]? = _
      rw [State.heap_setCell_other (show T.heap.size ≠ a by omega), hlt _ (by omega)]
      exact g5 a ha
    · show (((q_gs T c1 c2 i).pushCell (arrV c2 65 (fun _ => .int 0))).setCell T.heap.size _).heap[T.heap.size + 1 + j]? = _
      rw [State.heap_setCell_other (show T.heap.size ≠ T.heap.size + 1 + j by omega)]
      by_cases e : j = i
      · subst e
        rw [← g1]
        exact State.heap_pushCell_size _ _
      · rw [hlt _ (by omega)]
        exact g6 j (by omega)
theorem q_gs_top (T : State) (f : JFrame) (c1 c2 : ClassId) : ∀ i : Nat, q_gs (T.setTop f) c1 c2 i = (q_gs T c1 c2 i).setTop f
  | 0 => rfl
  | i + 1 => by simp only [q_gs, q_gs_top T f c1 c2 i, State.heap_setTop, State.pushCell_setTop, State.setCell_setTop]
theorem q_gs_st {p : Program} {l : Launch} {e : Env} {R : Room} {s : State} {m : MethodId} {args : Array Value} {below : List Frame} {meth : Method} {c : Code} {T : State} {locs : List Loc} {cells slots : Nat} (X : Stand p l e R s m args below meth c T locs cells slots) (c1 c2 : ClassId) : ∀ i : Nat, Stand p l e R s m args below meth c (q_gs T c1 c2 i) locs (cells + 1 + i) (slots + 5 + i * 65)
  | 0 => by
    have h := X.pushed (arrV c1 5 (q_gf T.heap.size 0))
    rw [arrV_size] at h
    exact h
  | i + 1 => by
    obtain ⟨g1, g2, -⟩ := q_gs_f T c1 c2 i
    have h1 := (q_gs_st X c1 c2 i).pushed (arrV c2 65 (fun _ => .int 0))
    have h2 := h1.stored (a := T.heap.size) (cell := arrV c1 5 (q_gf T.heap.size i)) (by rw [State.heap_pushCell_of_lt _ _ (show T.heap.size < (q_gs T c1 c2 i).heap.size by rw [g1]; omega)]; exact g2) i (.ref (T.heap.size + 1 + i))
    rw [arrV_store, q_gf_s, arrV_size] at h2
    have h3 := h2.dropFresh (fun x hx => by
      rcases List.mem_singleton.mp hx with rfl
      exact X.heapGrown)
    rw [show slots + 5 + (i + 1) * 65 = slots + 5 + i * 65 + 65 by omega]
    exact h3
section Grid
variable {E : CtlPost} {e : Env} {d : Bool} {acts : List Action} {s : State} {c1 c2 c3 : ClassId} {k1 k2 : Class}
/-- one row of sixty-five -/
theorem q_mk1 (h2 : s.vm.classes[c2]? = some k2) (h3 : k2.kind = .array c3 .int) (hl : ¬ 65 > e.platform.arrayLengthLimit) (hh : ¬ 65 * componentBytes .int > e.platform.maxHeapBytes) (hc : s.heap.size < e.platform.maxCells) (hs : s.slotsUsed + 65 ≤ e.platform.maxSlots)
    {Q : Addr → Pre} (hq : ∀ acts', Q s.heap.size d acts' (s.pushCell (arrV c2 65 (fun _ => .int 0)))) : wp (multianewarray.make c2 [65]) Q E e d acts s := by
  have hm : ¬ (65 : Int32) < 0 := by decide
  rw [multianewarray.make]
  simp only [wp_bind', W.ite, hm, if_false, wp_pure', W.theClass, h2, h3, Option.some.injEq, exists_eq_left']
  refine W.newArray_of h2 h3 hl hh hc hs rfl (fun acts' => ?_)
  have hz := arrV_new c2 65 (.int 0)
  show Q s.heap.size d acts' (s.pushCell { cls := c2, slots := Array.replicate 65 (.int 0), vm := .none })
  rw [hz]
  exact hq acts'
/-- five of them -/
theorem q_mk5 (h0 : s.vm.classes[c1]? = some k1) (h1 : k1.kind = .array c2 (.array .int)) (h2 : s.vm.classes[c2]? = some k2) (h3 : k2.kind = .array c3 .int) (hl : ¬ 65 > e.platform.arrayLengthLimit) (hh : ¬ 65 * componentBytes .int > e.platform.maxHeapBytes) (hl5 : ¬ 5 > e.platform.arrayLengthLimit) (hh5 : ¬ 5 * componentBytes (.array .int) > e.platform.maxHeapBytes)
    (hc : s.heap.size + 6 ≤ e.platform.maxCells) (hs : s.slotsUsed + 330 ≤ e.platform.maxSlots) {Q : Addr → Pre} (hq : ∀ d' acts', Q s.heap.size d' acts' (q_gs s c1 c2 5)) : wp (multianewarray.make c1 [5, 65]) Q E e d acts s := by
  have hm : ¬ (5 : Int32) < 0 := by decide
  have h50 : ((5 : Int32) == 0) = false := by decide
  rw [multianewarray.make]
  simp only [wp_bind', W.ite, hm, if_false, wp_pure', W.theClass, h0, h1, Option.some.injEq, exists_eq_left']
  refine W.newArray_of h0 h1 hl5 hh5 (by omega) (by show _ + 5 ≤ _; omega) rfl (fun acts' => ?_)
  rw [h50]
  simp only [Bool.false_eq_true, if_false, wp_bind', wp_pure']
  have hz : ({ cls := c1, slots := Array.replicate (5 : Int32).toNatClampNeg Value.null } : Cell) = arrV c1 5 (q_gf s.heap.size 0) := arrV_new c1 5 .null
  rw [hz]
  rw [Std.Legacy.Range.forIn_eq_forIn_range']
  have h5 : ([:(5 : Int32).toNatClampNeg] : Std.Legacy.Range).size = 5 := by decide
  rw [h5]
  refine wp_forIn_inv (fun todo u => ∃ i, i ≤ 5 ∧ todo = List.range' i (5 - i) ∧ u = q_gs s c1 c2 i) _ _ ⟨0, by decide, rfl, rfl⟩ ?_ ?_
  · rintro x todo u d' acts2 Q' ⟨i, hi, hx, rfl⟩ next
    by_cases h : i < 5
    · rw [show 5 - i = (5 - (i + 1)) + 1 by omega, List.range'_succ] at hx
      obtain ⟨rfl, htl⟩ := List.cons.inj hx
      obtain ⟨g1, g2, g3, g4, -⟩ := q_gs_f s c1 c2 x
      simp only [wp_bind']
      refine q_mk1 (by rw [g3]; exact h2) h3 hl hh (by rw [g1]; omega) (by rw [g4]; omega) (fun acts3 => ?_)
      simp only [wp_bind', W.writeLoc, wp_pure']
      refine ⟨arrV c1 5 (q_gf s.heap.size x), by rw [State.heap_pushCell_of_lt _ _ (show s.heap.size < (q_gs s c1 c2 x).heap.size by rw [g1]; omega)]; exact g2, (fun q => by cases q), by rw [arrV_size]; exact h, ?_, ?_⟩
      · show ((q_gs s c1 c2 x).pushCell _).fitsSlot c1 .none x _ = true
        simp [State.fitsSlot, State.slotType?, g3, h0, h1, fits]
      · rw [arrV_store, g1, q_gf_s]
        exact next _ _ _ ⟨x + 1, by omega, htl, rfl⟩
    · rw [show 5 - i = 0 by omega] at hx
      cases hx
  · rintro u d' acts2 ⟨i, hi, hx, rfl⟩
    by_cases h : i < 5
    · rw [show 5 - i = (5 - (i + 1)) + 1 by omega, List.range'_succ] at hx
      cases hx
    · rw [show i = 5 by omega]
      simp only [wp_pure']
      exact hq _ _
end Grid
theorem q_grid {p : Program} {l : Launch} {e : Env} {R : Room} {s : State} {m : MethodId} {args : Array Value} {below : List Frame} {meth : Method} {c : Code} {T : State} {locs : List Loc} {cells slots : Nat} (X : Stand p l e R s m args below meth c T locs cells slots) (hexec : p.tables.exec = Jvm.exec) {own : String} {index : Nat} (hown : s.vm.findClass own = some m.cls) (hcl : (Cond.classLink own index "[[I").before args s = true)
    {c1 c2 c3 : ClassId} {k1 k2 : Class} (hn1 : s.vm.findClass "[[I" = some c1) (hk1 : s.vm.classes[c1]? = some k1) (hd1 : k1.kind = .array c2 (.array .int)) (hk2 : s.vm.classes[c2]? = some k2) (hd2 : k2.kind = .array c3 .int)
    {g : JFrame} (hg : g.method = m) (hdg : decode c.code g.pc = .ok (.multianewarray index 2, 4)) {rest : List Value} (hstack : g.stack = .int 65 :: .int 5 :: rest) (hcells : cells + 6 ≤ R.cells) (hslots : slots + 330 ≤ R.slots) :
    ∃ vm1 : Vm, Stand p l e R s m args below meth c (q_gs (T.setVm vm1) c1 c2 5) locs (cells + 6) (slots + 330) ∧
      ∀ target, Steps p.tables e below ((q_gs (T.setVm vm1) c1 c2 5).setTop { g with pc := g.pc + 4, stack := .ref T.heap.size :: rest }) target → Steps p.tables e below (T.setTop g) target := by
  subst hg
  have hpl : e.platform.magicAccessors = ({} : Platform).magicAccessors := by rw [X.admits.platform]
  obtain ⟨c0, hf0, hlk⟩ := Cond.classLink_spec hown hcl e.platform hpl
  cases hn1.symm.trans hf0
  obtain ⟨hgv, hw1, -⟩ := State.classEntry (e := e) X.warmed hlk
  generalize T.vm.noted g.method.cls index (.cls c1) = vm1 at hgv hw1
  obtain ⟨k1', hk1', e1⟩ := hw1.alike.2.2 _ _ hk1
  obtain ⟨k2', hk2', e2⟩ := hw1.alike.2.2 _ _ hk2
  have XG := q_gs_st (X.noted hw1) c1 c2 5
  obtain ⟨r1, r2⟩ := X.roomAbove hcells hslots
  refine ⟨vm1, XG, fun target hrest => ?_⟩
  jvm_step X.here [hexec, hdg]
  simp only [multianewarray.sem, wp_bind', W.resolveClassAt_links (State.method?_setTop g X.here.top) hgv]
  rw [W.popN, if_neg (by decide)]
  refine ⟨g, State.topJava?_setTop' (s := T.setVm vm1) g X.here.top, [.int 5, .int 65], rest, rfl, hstack, ?_⟩
  simp only [List.mapM_cons, List.mapM_nil, wp_bind', wp_pure']
  have hal : e.platform.arrayLengthLimit = _ := Launch.admits_arrayLengthLimit X.admits
  have hhb : e.platform.maxHeapBytes = _ := Launch.admits_maxHeapBytes X.admits
  refine q_mk5 (k1 := k1') (k2 := k2') (c3 := c3) hk1' (by rw [e1]; exact hd1) hk2' (by rw [e2]; exact hd2) (by rw [hal]; decide) (by rw [hhb]; decide) (by rw [hal]; decide) (by rw [hhb]; decide) (by show T.heap.size + 6 ≤ _; omega) (by show T.slotsUsed + 330 ≤ _; omega) (fun d' acts' => ?_)
  have eS : ((T.setTop g).setVm vm1).setTop { g with stack := rest } = (T.setVm vm1).setTop { g with stack := rest } := by
    show ((T.setVm vm1).setTop g).setTop _ = _
    rw [State.setTop_setTop]
  rw [eS, q_gs_top]
  simp only [wp_bind', W.mark, W.pushRef, State.topJava?_setTop' _ XG.here.top, Option.some.injEq, exists_eq_left', State.setTop_setTop, State.heap_setTop]
  intro acts2
  simp [jvm, XG.here.top]
  exact hrest
/-- the grid's cells in our words -/
def q_gt (τ : q_T) (h : Nat) : q_T := fun q => if q = h then some (400, 5) else if h < q ∧ q < h + 6 then some (140, 65) else τ q
def q_gv (σ : q_V) (h : Nat) : q_V := fun q => if q = h then q_gf h 5 else if h < q ∧ q < h + 6 then (fun _ => .int 0) else σ q
theorem q_newAA {X : q_X} {cc : ByteArray} {own : String} {nL : Nat} {ret : Option FieldType} {fr lo mc ms cells slots pc idx : Nat} {τ : q_T} {σ : q_V} {lv : List (Nat × Value)} {st : List Value} (hG : q_G X cc own nL ret fr lo mc ms) (hw : Cond.classLink own idx "[[I" ∈ q_tbl) (hd : decode cc pc = .ok (.multianewarray idx 2, 4)) (hr : cells + 6 ≤ mc ∧ slots + 330 ≤ ms)
    (kk : ∀ (h : Nat) (τ1 : q_T) (σ1 : q_V), τ1 h = some (400, 5) → q_ex τ σ τ1 σ1 → (q_I τ σ → q_I τ1 σ1) → q_O X (cells + 6) (slots + 330) τ1 σ1 (pc + 4) lv (.ref h :: st)) : q_O X cells slots τ σ pc lv (.int 65 :: .int 5 :: st) := by
  obtain ⟨p, l, e, R, s, m, args, below, meth, c, Q, A, D⟩ := X
  obtain ⟨hx, hb, hre, hml, hown, hts, hK, hlk, hA, hR⟩ := hG
  subst hR
  intro H locs ls h1 h2 h3
  obtain ⟨k1, ha1, ha2⟩ := hK.2.2
  have hn1 : s.vm.findClass "[[I" = some (D.2 3) := (hK.1.2 3 _ rfl).2
  obtain ⟨-, k2, hb1, c3, hb2⟩ := (hK.1.2 0 _ rfl).1 0 (fun _ => .null)
  intro T hT XX
  obtain ⟨vm1, XG, step⟩ := q_grid XX hx hown (hts _ hw) hn1 ha1 ha2 hb1 hb2 (g := F0 m pc ls (.int 65 :: .int 5 :: st)) rfl (by rw [hb]; exact hd) rfl hr.1 hr.2
  obtain ⟨g1, g2, -, -, g5, g6⟩ := q_gs_f (T.setVm vm1) (D.2 3) (D.2 0) 5
  have hz : (T.setVm vm1).heap = H := hT
  rw [hz] at g1 g2 g5 g6
  have hnone : ∀ q, H.size ≤ q → τ q = none := fun q hq => by
    cases e : τ q with
    | none => rfl
    | some x => exact absurd ((h1 q x.1 x.2 e).2.lt) (by omega)
  have hex : ∀ (b : Nat) (x : Nat × Nat), τ b = some x → q_gt τ H.size b = some x ∧ q_gv σ H.size b = σ b := fun b x hb => by
    have hlt : b < H.size := (h1 b x.1 x.2 hb).2.lt
    unfold q_gt q_gv
    rw [if_neg (by omega), if_neg (by omega), if_neg (by omega), if_neg (by omega)]
    exact ⟨hb, rfl⟩
  have hin : ∀ j, j < 5 → q_gt τ H.size (H.size + 1 + j) = some (140, 65) := fun j hj => by
    unfold q_gt
    rw [if_neg (by omega), if_pos (by omega)]
  obtain ⟨t, a1, b1⟩ := kk H.size (q_gt τ H.size) (q_gv σ H.size) (by unfold q_gt; rw [if_pos rfl])
    ⟨hex, fun b n hb => by
      unfold q_gt at hb
      split at hb
      · cases hb
      · split at hb
        · cases hb
        · exact hb⟩
    (fun hI b k n hb j hj => by
      have ext : ∀ (b : Nat) (x : Nat × Nat), τ b = some x → (x.1 < 100 → x.2 = 1) → q_gt τ H.size b = some x := fun b x h _ => (hex b x h).1
      unfold q_gt at hb
      split at hb
      · next e =>
        cases hb
        subst e
        rw [q_limA (by decide)] at hj
        have e2 : q_gv σ H.size H.size j = .ref (H.size + 1 + j) := by unfold q_gv q_gf; rw [if_pos rfl, if_pos hj]
        rw [e2]
        exact q_vr (k := 140) (n := 65) rfl (hin j hj) (by decide)
      · next e =>
        split at hb
        · next e3 =>
          cases hb
          have e2 : q_gv σ H.size b j = .int 0 := by unfold q_gv; rw [if_neg e, if_pos e3]
          rw [e2]
          exact q_vi (ai_140.2.2 j) rl_0 (by decide)
        · next e3 =>
          have e2 : q_gv σ H.size b = σ b := by unfold q_gv; rw [if_neg e, if_neg e3]
          rw [e2]
          exact (hI b k n hb j hj).ext ext)
    (q_gs (T.setVm vm1) (D.2 3) (D.2 0) 5).heap locs ls
    (fun b k n hb => by
      unfold q_gt at hb
      split at hb
      · next e =>
        cases hb
        subst e
        refine ⟨hA _ h2.1, Or.inr ⟨by decide, ?_⟩⟩
        rw [g2]
        show _ = some (arrV (D.2 3) 5 (q_gv σ H.size H.size))
        unfold q_gv
        rw [if_pos rfl]
      · next e =>
        split at hb
        · next e3 =>
          cases hb
          refine ⟨hA _ (Nat.le_trans h2.1 (by omega)), Or.inr ⟨by decide, ?_⟩⟩
          have e4 := g6 (b - (H.size + 1)) (by omega)
          rw [show H.size + 1 + (b - (H.size + 1)) = b by omega] at e4
          rw [e4]
          show _ = some (arrV (D.2 0) 65 (q_gv σ H.size b))
          unfold q_gv
          rw [if_neg e, if_pos e3]
        · next e3 =>
          obtain ⟨f1, f2⟩ := h1 b k n hb
          have e2 : q_gv σ H.size b = σ b := by unfold q_gv; rw [if_neg e, if_neg e3]
          rw [e2]
          exact ⟨f1, f2.kept (g5 b f2.lt)⟩)
    ⟨Nat.le_trans h2.1 (by rw [g1]; omega), fun q q1 q2 => by rw [g5 q (Nat.lt_of_lt_of_le q1 h2.1)]; exact h2.2.1 q q1 q2, h2.2.2⟩ h3 _ rfl XG
  refine ⟨t, step t ?_, b1⟩
  rw [hT]
  exact a1
