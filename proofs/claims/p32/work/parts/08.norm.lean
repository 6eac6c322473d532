/-! METHODS THAT MAKE NO CELL: their contracts, calls and ends -/
def q_Ci (l : Launch) (D : q_D) (y : MethodName) (cc : ByteArray) (maxL : Nat) (ret : Option FieldType) (fr lo : Nat) (τ : q_T) (σ : q_V) (av : List Value) (P : Int32 → q_V → Prop) : Prop := q_C l D y cc maxL ret fr lo 0 0 τ σ av q_ei (fun r τ1 σ1 => τ1 = τ ∧ P r σ1)
def q_Cv (l : Launch) (D : q_D) (y : MethodName) (cc : ByteArray) (maxL : Nat) (ret : Option FieldType) (fr lo : Nat) (τ : q_T) (σ : q_V) (av : List Value) (P : q_V → Prop) : Prop := q_C l D y cc maxL ret fr lo 0 0 τ σ av q_ev (fun _ τ1 σ1 => τ1 = τ ∧ P σ1)
def q_Cr (l : Launch) (D : q_D) (y : MethodName) (cc : ByteArray) (maxL : Nat) (ret : Option FieldType) (fr lo : Nat) (τ : q_T) (σ : q_V) (av : List Value) (P : Nat → q_V → Prop) : Prop := q_C l D y cc maxL ret fr lo 0 0 τ σ av q_er (fun r τ1 σ1 => τ1 = τ ∧ P r σ1)
def q_Ei (X : q_X) (τ : q_T) (P : Int32 → q_V → Prop) : Prop := q_E X 0 0 q_ei (fun r τ1 σ1 => τ1 = τ ∧ P r σ1)
def q_Ev (X : q_X) (τ : q_T) (P : q_V → Prop) : Prop := q_E X 0 0 q_ev (fun _ τ1 σ1 => τ1 = τ ∧ P σ1)
def q_Er (X : q_X) (τ : q_T) (P : Nat → q_V → Prop) : Prop := q_E X 0 0 q_er (fun r τ1 σ1 => τ1 = τ ∧ P r σ1)
theorem q_meti {l : Launch} {D : q_D} {y : MethodName} {cc : ByteArray} {maxL : Nat} {ret : Option FieldType} {fr lo : Nat} {τ : q_T} {σ : q_V} {av : List Value} {P : Int32 → q_V → Prop} (hy : plainFor y = true) (hlen : (lg_sl av).length ≤ maxL) (body : ∀ X : q_X, q_G X cc y.cls maxL ret fr lo 0 0 → q_Ei X τ P → q_O X 0 0 τ σ 0 (lv_args 0 av) []) : q_Ci l D y cc maxL ret fr lo τ σ av P := q_met hy hlen (fun X hG hE _ => body X hG hE)
theorem q_metv {l : Launch} {D : q_D} {y : MethodName} {cc : ByteArray} {maxL : Nat} {ret : Option FieldType} {fr lo : Nat} {τ : q_T} {σ : q_V} {av : List Value} {P : q_V → Prop} (hy : plainFor y = true) (hlen : (lg_sl av).length ≤ maxL) (body : ∀ X : q_X, q_G X cc y.cls maxL ret fr lo 0 0 → q_Ev X τ P → q_O X 0 0 τ σ 0 (lv_args 0 av) []) : q_Cv l D y cc maxL ret fr lo τ σ av P := q_met hy hlen (fun X hG hE _ => body X hG hE)
theorem q_metr {l : Launch} {D : q_D} {y : MethodName} {cc : ByteArray} {maxL : Nat} {ret : Option FieldType} {fr lo : Nat} {τ : q_T} {σ : q_V} {av : List Value} {P : Nat → q_V → Prop} (hy : plainFor y = true) (hlen : (lg_sl av).length ≤ maxL) (body : ∀ X : q_X, q_G X cc y.cls maxL ret fr lo 0 0 → q_Er X τ P → q_O X 0 0 τ σ 0 (lv_args 0 av) []) : q_Cr l D y cc maxL ret fr lo τ σ av P := q_met hy hlen (fun X hG hE _ => body X hG hE)
section Norm
variable {X : q_X} {cc : ByteArray} {own : String} {nL : Nat} {ret : Option FieldType} {fr lo pc mc ms cells slots : Nat} {τ : q_T} {σ : q_V} {lv : List (Nat × Value)} {st rest : List Value}
theorem q_irt {P : Int32 → q_V → Prop} {x : Int32} (hG : q_G X cc own nL (some .int) fr lo 0 0) (hE : q_Ei X τ P) (hd : decode cc pc = .ok (.ireturn, 1)) (hp : P x σ) : q_O X 0 0 τ σ pc lv [.int x] := q_iret hG hE hd ⟨rfl, hp⟩
theorem q_zrt {P : Int32 → q_V → Prop} {x : Int32} (hG : q_G X cc own nL (some .boolean) fr lo 0 0) (hE : q_Ei X τ P) (hd : decode cc pc = .ok (.ireturn, 1)) (hx : q_r x 0 1) (hp : P x σ) : q_O X 0 0 τ σ pc lv [.int x] := q_zret hG hE hd hx ⟨rfl, hp⟩
theorem q_vrt {P : q_V → Prop} (hG : q_G X cc own nL none fr lo 0 0) (hE : q_Ev X τ P) (hd : decode cc pc = .ok (.return_, 1)) (hp : P σ) : q_O X 0 0 τ σ pc lv [] := q_vret hG hE hd ⟨rfl, hp⟩
theorem q_art {P : Nat → q_V → Prop} {a : Nat} {t : FieldType} (hG : q_G X cc own nL (some (.array t)) fr lo 0 0) (hE : q_Er X τ P) (hd : decode cc pc = .ok (.areturn, 1)) (hp : P a σ) : q_O X 0 0 τ σ pc lv [.ref a] := q_aret hG hE hd ⟨rfl, hp⟩
variable {y : MethodName} {bytes : ByteArray} {maxL2 fr2 lo2 idx k b n1 np : Nat} {ret2 : Option FieldType}
theorem q_cVi {P : Int32 → q_V → Prop} (As rest : List Value) (hG : q_G X cc own nL ret fr lo mc ms) (hC : q_Ci (q_l X) (q_dd X) y bytes maxL2 ret2 fr2 lo2 τ σ (.ref b :: As) P) (hy : q_cy y bytes maxL2 ret2 np) (hyv : q_cyV y k) (hl : Cond.methodLink own idx y ∈ q_tbl) (hd : decode cc pc = .ok (.invokevirtual idx, 3)) (hT : τ b = some (k, n1)) (hk : k < 100) (hn : As.length = np) (hs : st = As.reverse ++ .ref b :: rest) (hst : (rest.map fun v => v.category).sum ≤ 8)
    (hr : fr2 + 1 ≤ fr ∧ 8 + (maxL2 + 11) + lo2 ≤ lo ∧ cells ≤ mc ∧ slots ≤ ms) (kk : ∀ (r : Int32) (σ1 : q_V), P r σ1 → q_O X cells slots τ σ1 (pc + 3) lv (.int r :: rest)) : q_O X cells slots τ σ pc lv st :=
  q_callV As hG hC hy hyv hl hd hT hk hn hs hst hr (fun r τ1 σ1 h => by obtain ⟨rfl, h⟩ := h; exact kk r σ1 h)
theorem q_cVv {P : q_V → Prop} (As rest : List Value) (hG : q_G X cc own nL ret fr lo mc ms) (hC : q_Cv (q_l X) (q_dd X) y bytes maxL2 ret2 fr2 lo2 τ σ (.ref b :: As) P) (hy : q_cy y bytes maxL2 ret2 np) (hyv : q_cyV y k) (hl : Cond.methodLink own idx y ∈ q_tbl) (hd : decode cc pc = .ok (.invokevirtual idx, 3)) (hT : τ b = some (k, n1)) (hk : k < 100) (hn : As.length = np) (hs : st = As.reverse ++ .ref b :: rest) (hst : (rest.map fun v => v.category).sum ≤ 8)
    (hr : fr2 + 1 ≤ fr ∧ 8 + (maxL2 + 11) + lo2 ≤ lo ∧ cells ≤ mc ∧ slots ≤ ms) (kk : ∀ (σ1 : q_V), P σ1 → q_O X cells slots τ σ1 (pc + 3) lv rest) : q_O X cells slots τ σ pc lv st :=
  q_callV As hG hC hy hyv hl hd hT hk hn hs hst hr (fun r τ1 σ1 h => by obtain ⟨rfl, h⟩ := h; exact kk σ1 h)
theorem q_cVr {P : Nat → q_V → Prop} (As rest : List Value) (hG : q_G X cc own nL ret fr lo mc ms) (hC : q_Cr (q_l X) (q_dd X) y bytes maxL2 ret2 fr2 lo2 τ σ (.ref b :: As) P) (hy : q_cy y bytes maxL2 ret2 np) (hyv : q_cyV y k) (hl : Cond.methodLink own idx y ∈ q_tbl) (hd : decode cc pc = .ok (.invokevirtual idx, 3)) (hT : τ b = some (k, n1)) (hk : k < 100) (hn : As.length = np) (hs : st = As.reverse ++ .ref b :: rest) (hst : (rest.map fun v => v.category).sum ≤ 8)
    (hr : fr2 + 1 ≤ fr ∧ 8 + (maxL2 + 11) + lo2 ≤ lo ∧ cells ≤ mc ∧ slots ≤ ms) (kk : ∀ (r : Nat) (σ1 : q_V), P r σ1 → q_O X cells slots τ σ1 (pc + 3) lv (.ref r :: rest)) : q_O X cells slots τ σ pc lv st :=
  q_callV As hG hC hy hyv hl hd hT hk hn hs hst hr (fun r τ1 σ1 h => by obtain ⟨rfl, h⟩ := h; exact kk r σ1 h)
theorem q_cSi {P : Int32 → q_V → Prop} (As rest : List Value) (hG : q_G X cc own nL ret fr lo mc ms) (hC : q_Ci (q_l X) (q_dd X) y bytes maxL2 ret2 fr2 lo2 τ σ As P) (hy : q_cy y bytes maxL2 ret2 np) (hys : Cond.static y ∈ q_tbl) (hl : Cond.methodLink own idx y ∈ q_tbl) (hd : decode cc pc = .ok (.invokestatic idx, 3)) (hn : As.length = np) (hs : st = As.reverse ++ rest) (hst : (rest.map fun v => v.category).sum ≤ 8)
    (hr : fr2 + 1 ≤ fr ∧ 8 + (maxL2 + 11) + lo2 ≤ lo ∧ cells ≤ mc ∧ slots ≤ ms) (kk : ∀ (r : Int32) (σ1 : q_V), P r σ1 → q_O X cells slots τ σ1 (pc + 3) lv (.int r :: rest)) : q_O X cells slots τ σ pc lv st :=
  q_callS As hG hC hy hys hl hd hn hs hst hr (fun r τ1 σ1 h => by obtain ⟨rfl, h⟩ := h; exact kk r σ1 h)
theorem q_cSv {P : q_V → Prop} (As rest : List Value) (hG : q_G X cc own nL ret fr lo mc ms) (hC : q_Cv (q_l X) (q_dd X) y bytes maxL2 ret2 fr2 lo2 τ σ As P) (hy : q_cy y bytes maxL2 ret2 np) (hys : Cond.static y ∈ q_tbl) (hl : Cond.methodLink own idx y ∈ q_tbl) (hd : decode cc pc = .ok (.invokestatic idx, 3)) (hn : As.length = np) (hs : st = As.reverse ++ rest) (hst : (rest.map fun v => v.category).sum ≤ 8)
    (hr : fr2 + 1 ≤ fr ∧ 8 + (maxL2 + 11) + lo2 ≤ lo ∧ cells ≤ mc ∧ slots ≤ ms) (kk : ∀ (σ1 : q_V), P σ1 → q_O X cells slots τ σ1 (pc + 3) lv rest) : q_O X cells slots τ σ pc lv st :=
  q_callS As hG hC hy hys hl hd hn hs hst hr (fun r τ1 σ1 h => by obtain ⟨rfl, h⟩ := h; exact kk σ1 h)
theorem q_cNi {host : String} {P : Int32 → q_V → Prop} (As rest : List Value) (hG : q_G X cc own nL ret fr lo mc ms) (hC : q_Ci (q_l X) (q_dd X) y bytes maxL2 ret2 fr2 lo2 τ σ As P) (hy : q_cy y bytes maxL2 ret2 np) (hys : Cond.static y ∈ q_tbl) (hl : Cond.methodLinkNest own idx y host ∈ lw_tbl) (hd : decode cc pc = .ok (.invokestatic idx, 3)) (hn : As.length = np) (hs : st = As.reverse ++ rest) (hst : (rest.map fun v => v.category).sum ≤ 8)
    (hr : fr2 + 1 ≤ fr ∧ 8 + (maxL2 + 11) + lo2 ≤ lo ∧ cells ≤ mc ∧ slots ≤ ms) (kk : ∀ (r : Int32) (σ1 : q_V), P r σ1 → q_O X cells slots τ σ1 (pc + 3) lv (.int r :: rest)) : q_O X cells slots τ σ pc lv st :=
  q_callSN As hG hC hy hys hl hd hn hs hst hr (fun r τ1 σ1 h => by obtain ⟨rfl, h⟩ := h; exact kk r σ1 h)
end Norm
/-! small facts for the walks -/
theorem q_one {x : Int32} (h : q_r x 0 1) (hn : x.toInt ≠ 0) : x.toInt = 1 := by unfold q_r at h; omega
theorem q_zlt {x : Int32} {a b : Int} (h : q_r x a b) (hc : x.toInt < 0) : q_r x a (-1) := ⟨h.1, by omega⟩
theorem q_zle {x : Int32} {a b : Int} (h : q_r x a b) (hc : x.toInt ≤ 0) : q_r x a 0 := ⟨h.1, hc⟩
theorem q_zgt {x : Int32} {a b : Int} (h : q_r x a b) (hc : 0 < x.toInt) : q_r x 1 b := ⟨by omega, h.2⟩
theorem q_zge {x : Int32} {a b : Int} (h : q_r x a b) (hc : 0 ≤ x.toInt) : q_r x 0 b := ⟨hc, h.2⟩
theorem q_zeq {x : Int32} (hc : x.toInt = 0) : q_r x 0 0 := q_lit hc
theorem q_neL {x : Int32} {a b c : Int} (h : q_r x a b) (hc : x.toInt ≠ a) (e : c = a + 1) : q_r x c b := ⟨by unfold q_r at h; omega, h.2⟩
theorem q_neH {x : Int32} {a b c : Int} (h : q_r x a b) (hc : x.toInt ≠ b) (e : c = b - 1) : q_r x a c := ⟨h.1, by unfold q_r at h; omega⟩
theorem q_eqi {x y : Int32} (h : x.toInt = y.toInt) : x = y := Int32.toInt_inj.mp h
theorem q_nel {x y : Int32} {n : Int} (h : x.toInt ≠ y.toInt) (e : y.toInt = n) : x.toInt ≠ n := fun q => h (q.trans e.symm)
theorem q_keepK {τ : q_T} {σ : q_V} {a b k n k2 n2 j i : Nat} {v : Value} (hA : τ a = some (k, n)) (hB : τ b = some (k2, n2)) (hk : k ≠ k2) : q_up σ b j v a i = σ a i := by
  have h : a ≠ b := fun e => by
    rw [e, hB] at hA
    cases hA
    exact hk rfl
  rw [q_up_ne h]
theorem q_measU {p p2 : Int32} {U : Int} {n : Nat} (hm : (U - p.toInt).toNat < n + 1) (ht : p.toInt < p2.toInt) (hr : p2.toInt ≤ U) : (U - p2.toInt).toNat < n := by omega
theorem q_measD {p p2 : Int32} {U : Int} {n : Nat} (hm : (p.toInt - U).toNat < n + 1) (ht : p2.toInt < p.toInt) (hr : U ≤ p2.toInt) : (p2.toInt - U).toNat < n := by omega
/-! methods that change nothing -/
def q_Cp (l : Launch) (D : q_D) (y : MethodName) (cc : ByteArray) (maxL : Nat) (ret : Option FieldType) (fr lo : Nat) (τ : q_T) (σ : q_V) (av : List Value) (P : Int32 → Prop) : Prop := q_Ci l D y cc maxL ret fr lo τ σ av (fun r σ1 => σ1 = σ ∧ P r)
def q_Cq (l : Launch) (D : q_D) (y : MethodName) (cc : ByteArray) (maxL : Nat) (ret : Option FieldType) (fr lo : Nat) (τ : q_T) (σ : q_V) (av : List Value) (P : Nat → Prop) : Prop := q_Cr l D y cc maxL ret fr lo τ σ av (fun r σ1 => σ1 = σ ∧ P r)
section Pure
variable {X : q_X} {cc : ByteArray} {own : String} {nL : Nat} {ret : Option FieldType} {fr lo pc mc ms cells slots : Nat} {τ : q_T} {σ : q_V} {lv : List (Nat × Value)} {st : List Value}
variable {y : MethodName} {bytes : ByteArray} {maxL2 fr2 lo2 idx k b n1 np : Nat} {ret2 : Option FieldType}
theorem q_pV {P : Int32 → Prop} (As rest : List Value) (hG : q_G X cc own nL ret fr lo mc ms) (hC : q_Cp (q_l X) (q_dd X) y bytes maxL2 ret2 fr2 lo2 τ σ (.ref b :: As) P) (hy : q_cy y bytes maxL2 ret2 np) (hyv : q_cyV y k) (hl : Cond.methodLink own idx y ∈ q_tbl) (hd : decode cc pc = .ok (.invokevirtual idx, 3)) (hT : τ b = some (k, n1)) (hk : k < 100) (hn : As.length = np) (hs : st = As.reverse ++ .ref b :: rest) (hst : (rest.map fun v => v.category).sum ≤ 8)
    (hr : fr2 + 1 ≤ fr ∧ 8 + (maxL2 + 11) + lo2 ≤ lo ∧ cells ≤ mc ∧ slots ≤ ms) (kk : ∀ r : Int32, P r → q_O X cells slots τ σ (pc + 3) lv (.int r :: rest)) : q_O X cells slots τ σ pc lv st :=
  q_cVi As rest hG hC hy hyv hl hd hT hk hn hs hst hr (fun r σ1 h => by rw [h.1]; exact kk r h.2)
theorem q_pR {P : Nat → Prop} (As rest : List Value) (hG : q_G X cc own nL ret fr lo mc ms) (hC : q_Cq (q_l X) (q_dd X) y bytes maxL2 ret2 fr2 lo2 τ σ (.ref b :: As) P) (hy : q_cy y bytes maxL2 ret2 np) (hyv : q_cyV y k) (hl : Cond.methodLink own idx y ∈ q_tbl) (hd : decode cc pc = .ok (.invokevirtual idx, 3)) (hT : τ b = some (k, n1)) (hk : k < 100) (hn : As.length = np) (hs : st = As.reverse ++ .ref b :: rest) (hst : (rest.map fun v => v.category).sum ≤ 8)
    (hr : fr2 + 1 ≤ fr ∧ 8 + (maxL2 + 11) + lo2 ≤ lo ∧ cells ≤ mc ∧ slots ≤ ms) (kk : ∀ r : Nat, P r → q_O X cells slots τ σ (pc + 3) lv (.ref r :: rest)) : q_O X cells slots τ σ pc lv st :=
  q_cVr As rest hG hC hy hyv hl hd hT hk hn hs hst hr (fun r σ1 h => by rw [h.1]; exact kk r h.2)
theorem q_pS {P : Int32 → Prop} (As rest : List Value) (hG : q_G X cc own nL ret fr lo mc ms) (hC : q_Cp (q_l X) (q_dd X) y bytes maxL2 ret2 fr2 lo2 τ σ As P) (hy : q_cy y bytes maxL2 ret2 np) (hys : Cond.static y ∈ q_tbl) (hl : Cond.methodLink own idx y ∈ q_tbl) (hd : decode cc pc = .ok (.invokestatic idx, 3)) (hn : As.length = np) (hs : st = As.reverse ++ rest) (hst : (rest.map fun v => v.category).sum ≤ 8)
    (hr : fr2 + 1 ≤ fr ∧ 8 + (maxL2 + 11) + lo2 ≤ lo ∧ cells ≤ mc ∧ slots ≤ ms) (kk : ∀ r : Int32, P r → q_O X cells slots τ σ (pc + 3) lv (.int r :: rest)) : q_O X cells slots τ σ pc lv st :=
  q_cSi As rest hG hC hy hys hl hd hn hs hst hr (fun r σ1 h => by rw [h.1]; exact kk r h.2)
theorem q_pN {host : String} {P : Int32 → Prop} (As rest : List Value) (hG : q_G X cc own nL ret fr lo mc ms) (hC : q_Cp (q_l X) (q_dd X) y bytes maxL2 ret2 fr2 lo2 τ σ As P) (hy : q_cy y bytes maxL2 ret2 np) (hys : Cond.static y ∈ q_tbl) (hl : Cond.methodLinkNest own idx y host ∈ lw_tbl) (hd : decode cc pc = .ok (.invokestatic idx, 3)) (hn : As.length = np) (hs : st = As.reverse ++ rest) (hst : (rest.map fun v => v.category).sum ≤ 8)
    (hr : fr2 + 1 ≤ fr ∧ 8 + (maxL2 + 11) + lo2 ≤ lo ∧ cells ≤ mc ∧ slots ≤ ms) (kk : ∀ r : Int32, P r → q_O X cells slots τ σ (pc + 3) lv (.int r :: rest)) : q_O X cells slots τ σ pc lv st :=
  q_cNi As rest hG hC hy hys hl hd hn hs hst hr (fun r σ1 h => by rw [h.1]; exact kk r h.2)
end Pure
theorem q_maxN {x y r : Int32} {a b c d lo hi : Int} (h : (x.toInt ≤ r.toInt ∧ y.toInt ≤ r.toInt) ∧ (r.toInt = x.toInt ∨ r.toInt = y.toInt)) (hx : q_r x a b) (hy : q_r y c d) (hd : (lo ≤ a ∨ lo ≤ c) ∧ b ≤ hi ∧ d ≤ hi) : q_r r lo hi := by unfold q_r at *; omega
theorem q_minN {x y r : Int32} {a b c d lo hi : Int} (h : (r.toInt ≤ x.toInt ∧ r.toInt ≤ y.toInt) ∧ (r.toInt = x.toInt ∨ r.toInt = y.toInt)) (hx : q_r x a b) (hy : q_r y c d) (hd : (b ≤ hi ∨ d ≤ hi) ∧ lo ≤ a ∧ lo ≤ c) : q_r r lo hi := by unfold q_r at *; omega
theorem q_absN {x r : Int32} {a b lo hi : Int} (h : -2147483648 < x.toInt → (r.toInt = x.toInt ∨ r.toInt = -x.toInt) ∧ 0 ≤ r.toInt) (hx : q_r x a b) (hd : -2147483648 < a ∧ (lo ≤ 0 ∨ lo ≤ a ∨ lo ≤ -b) ∧ b ≤ hi ∧ -a ≤ hi) : q_r r lo hi := by
  unfold q_r at *
  have := h (by omega)
  omega
theorem q_heldN {x y z r : Int32} {a b c d e f lo hi : Int} (h : y.toInt ≤ r.toInt ∧ (r.toInt = y.toInt ∨ ((r.toInt = x.toInt ∨ r.toInt = z.toInt) ∧ r.toInt ≤ z.toInt ∧ r.toInt ≤ x.toInt))) (hx : q_r x a b) (hy : q_r y c d) (hz : q_r z e f) (hd : (lo ≤ c ∨ (lo ≤ a ∧ lo ≤ e)) ∧ d ≤ hi ∧ (b ≤ hi ∨ f ≤ hi)) (h2 : x.toInt ≤ r.toInt ∨ z.toInt ≤ r.toInt) : q_r r lo hi := by unfold q_r at *; omega
