/-! tables that are gone through: what is sought is there -/
def q_i32 (v : Value) : Int32 := match v with
  | .int x => x
  | _ => 0
def q_iv (f : Nat → Value) (n : Int) : Int := (q_i32 (f n.toNat)).toInt
theorem q_i32_at {f : Nat → Value} {n : Nat} {x : Int32} (h : f n = .int x) : q_i32 (f n) = x := by rw [h]; rfl
theorem q_iv_at {f : Nat → Value} {n : Int} {x : Int32} (h : f n.toNat = .int x) : q_iv f n = x.toInt := by unfold q_iv; rw [h]; rfl
theorem q_iv_up {f : Nat → Value} {n m : Int} {x : Int32} (h : n.toNat ≠ m.toNat) : q_iv (updV f m.toNat (.int x)) n = q_iv f n := by unfold q_iv; rw [q_uo h]
theorem q_iv_us {f : Nat → Value} {m : Int} {x : Int32} : q_iv (updV f m.toNat (.int x)) m = x.toInt := by unfold q_iv; rw [q_us]; rfl
def q_ab (x : Int32) : Int32 := if x.toInt < 0 then 0 - x else x
def q_mx (x y : Int32) : Int32 := if x.toInt ≤ y.toInt then y else x
/-- the wear of places from a on -/
def q_wi (f : Nat → Value) (a : Nat) : Nat → Int32
  | 0 => 0
  | k + 1 => q_wi f a k + q_i32 (f (128 + a + k))
def q_Eb (fn fo : Nat → Value) (many len k i b : Int) : Prop := 0 ≤ b → ∃ j : Int, i ≤ j ∧ j + len ≤ many ∧ 0 ≤ q_iv fo (65 * (k - 1) + (j + len)) ∧ (q_wi fn j.toNat len.toNat + q_i32 (fo (65 * (k - 1) + (j + len)).toNat)).toInt = b
theorem q_Eb.mono {fn fo : Nat → Value} {many len k i i' b : Int} (h : q_Eb fn fo many len k i b) (hi : i' ≤ i) : q_Eb fn fo many len k i' b := fun q => by
  obtain ⟨j, h1, h2⟩ := h q
  exact ⟨j, by omega, h2⟩
theorem q_Eb.neg {fn fo : Nat → Value} {many len k i b : Int} (h : b < 0) : q_Eb fn fo many len k i b := fun q => by omega
theorem q_Eb.here {fn fo : Nat → Value} {many len k i : Int} {x : Int32} (h1 : i + len ≤ many) (h2 : 0 ≤ q_iv fo (65 * (k - 1) + (i + len))) (h3 : q_wi fn i.toNat len.toNat + q_i32 (fo (65 * (k - 1) + (i + len)).toNat) = x) : q_Eb fn fo many len k i x.toInt := fun _ => ⟨i, Int.le_refl _, h1, h2, by rw [h3]⟩
theorem q_Eb.up {fn fo : Nat → Value} {many len k i b n : Int} {x : Int32} (h : q_Eb fn fo many len k i b) (hm : many ≤ 64 ∧ 0 ≤ i ∧ 1 ≤ k ∧ 1 ≤ len) (hn : 65 * k ≤ n) : q_Eb fn (updV fo n.toNat (.int x)) many len k i b := fun q => by
  obtain ⟨j, h1, h2, h3, h4⟩ := h q
  have e : (65 * (k - 1) + (j + len)).toNat ≠ n.toNat := by omega
  exact ⟨j, h1, h2, by rw [q_iv_up e]; exact h3, by rw [q_uo e]; exact h4⟩
/-- the table of wear up to clause k, and of clause k from i on -/
def q_Et (fn fo : Nat → Value) (many len k i : Int) : Prop := ∀ k' i' : Int, 1 ≤ k' → (k' < k ∨ (k' = k ∧ i < i')) → 0 ≤ i' → i' ≤ 64 → q_Eb fn fo many len k' i' (q_iv fo (65 * k' + i'))
theorem q_Et.new {fn fo : Nat → Value} {many len : Int} : q_Et fn fo many len 1 64 := fun k i h1 h2 h3 h4 => by omega
theorem q_Et.next {fn fo : Nat → Value} {many len k : Int} (h : q_Et fn fo many len k (-1)) : q_Et fn fo many len (k + 1) 64 := fun k' i' h1 h2 h3 h4 => h k' i' h1 (by omega) h3 h4
theorem q_Et.put {fn fo : Nat → Value} {many len k i : Int} {x : Int32} (h : q_Et fn fo many len k i) (hm : many ≤ 64 ∧ 0 ≤ i ∧ 1 ≤ k ∧ 1 ≤ len ∧ i ≤ 64) (hb : q_Eb fn fo many len k i x.toInt) : q_Et fn (updV fo (65 * k + i).toNat (.int x)) many len k (i - 1) := fun k' i' h1 h2 h3 h4 => by
  by_cases e : k' = k ∧ i' = i
  · obtain ⟨rfl, rfl⟩ := e
    rw [q_iv_us]
    exact hb.up (by omega) (by omega)
  · rw [q_iv_up (by omega)]
    exact (h k' i' h1 (by omega) h3 h4).up (by omega) (by omega)
/-- straight lines between two dots -/
def q_str (f : Nat → Value) (a b i : Int32) : Int32 := if i.toInt = a.toInt then q_i32 (f a.toInt.toNat) else q_i32 (f a.toInt.toNat) + (q_i32 (f b.toInt.toNat) - q_i32 (f a.toInt.toNat)) * (i - a) / (b - a)
def q_wo (f : Nat → Value) (a b : Int32) : Nat → Int32
  | 0 => 0
  | k + 1 => q_mx (q_wo f a b k) (q_ab (q_str f a b (Int32.ofInt (a.toInt + 1 + k)) - q_i32 (f (a.toInt + 1 + k).toNat)))
def q_wz (f : Nat → Value) (i j : Int) : Int := (q_wo f (Int32.ofInt i) (Int32.ofInt j) (j - i - 1).toNat).toInt
theorem q_wz_1 {f : Nat → Value} {i j : Int} (h : j = i + 1) : q_wz f i j = 0 := by
  unfold q_wz
  rw [show (j - i - 1).toNat = 0 by omega]
  rfl
theorem q_wz_of {f : Nat → Value} {a b r : Int32} (h : r = q_wo f a b (b.toInt - a.toInt - 1).toNat) : r.toInt = q_wz f a.toInt b.toInt := by
  unfold q_wz
  rw [Int32.ofInt_toInt, Int32.ofInt_toInt, ← h]
theorem q_wo_s {f : Nat → Value} {a b p r r2 : Int32} (h : r = q_wo f a b (p.toInt - a.toInt - 1).toNat) (hp : a.toInt < p.toInt) (e : r2 = q_mx r (q_ab (q_str f a b p - q_i32 (f p.toInt.toNat)))) : r2 = q_wo f a b (p.toInt + 1 - a.toInt - 1).toNat := by
  rw [show (p.toInt + 1 - a.toInt - 1).toNat = (p.toInt - a.toInt - 1).toNat + 1 by omega]
  show r2 = q_mx (q_wo f a b (p.toInt - a.toInt - 1).toNat) (q_ab (q_str f a b (Int32.ofInt (a.toInt + 1 + ((p.toInt - a.toInt - 1).toNat : Nat))) - q_i32 (f (a.toInt + 1 + ((p.toInt - a.toInt - 1).toNat : Nat)).toNat)))
  rw [show a.toInt + 1 + (((p.toInt - a.toInt - 1).toNat : Nat) : Int) = p.toInt by omega, Int32.ofInt_toInt, ← h]
  exact e
/-- pins: one step from i -/
def q_pb1 (fn fp : Nat → Value) (e last i b : Int) : Prop := ∃ j : Int, i < j ∧ j ≤ last ∧ q_wz fn i j ≤ e ∧ q_iv fp j = b ∧ 1 ≤ b ∧ b ≤ last - i
def q_pp (fn fp : Nat → Value) (e last i : Int) : Prop := ∀ i' : Int, i < i' → i' ≤ last → (1 ≤ q_iv fp i' ∧ q_iv fp i' ≤ last - i' + 1) ∧ (i' < last → q_pb1 fn fp e last i' (q_iv fp i' - 1))
theorem q_pp.new {fn fp : Nat → Value} {e last : Int} (h : q_iv fp last = 1) : q_pp fn fp e last (last - 1) := fun i' h1 h2 => by
  have : i' = last := by omega
  subst this
  exact ⟨by omega, fun q => by omega⟩
theorem q_pp.put {fn fp : Nat → Value} {e last i : Int} {x : Int32} {b : Int} (h : q_pp fn fp e last i) (hi : 0 ≤ i ∧ i < last) (hb : q_pb1 fn fp e last i b) (hx : x.toInt = b + 1) : q_pp fn (updV fp i.toNat (.int x)) e last (i - 1) := fun i' h1 h2 => by
  have key : ∀ (i' b : Int), i ≤ i' → q_pb1 fn fp e last i' b → q_pb1 fn (updV fp i.toNat (.int x)) e last i' b := fun i' b hi' ⟨j, j1, j2, j3, j4, j5⟩ => ⟨j, j1, j2, j3, by rw [q_iv_up (by omega)]; exact j4, j5⟩
  by_cases ei : i' = i
  · subst ei
    rw [q_iv_us]
    have hb' := hb
    obtain ⟨j, j1, j2, j3, j4, j5, j6⟩ := hb'
    refine ⟨by omega, fun _ => ?_⟩
    rw [show x.toInt - 1 = b by omega]
    exact key _ _ (Int.le_refl _) hb
  · rw [q_iv_up (by omega)]
    obtain ⟨g1, g2⟩ := h i' (by omega) h2
    exact ⟨g1, fun q => key _ _ (by omega) (g2 q)⟩
/-- smooth lines: how far off from a dot on -/
def q_ob (fn fo : Nat → Value) (i v : Int) : Int := ((v - q_iv fn i).natAbs : Int) + q_iv fo (61 * i + v + 30)
def q_so1 (fn fo : Nat → Value) (g i v b : Int) : Prop := ∃ w : Int, (-30 ≤ w ∧ w ≤ 30) ∧ (v - g ≤ w ∧ w ≤ v + g) ∧ q_ob fn fo i w = b
/-- the table from dot i on: of dot i those from v on are not laid yet -/
def q_so (fn fo : Nat → Value) (g n i v : Int) : Prop := ∀ i' v' : Int, (i < i' ∨ (i = i' ∧ v' < v)) → i' < n → -30 ≤ v' → v' ≤ 30 → (0 ≤ q_iv fo (61 * i' + v' + 30) ∧ q_iv fo (61 * i' + v' + 30) ≤ 129 * (n - 1 - i')) ∧ (i' < n - 1 → q_so1 fn fo g (i' + 1) v' (q_iv fo (61 * i' + v' + 30)))
theorem q_so.next {fn fo : Nat → Value} {g n i : Int} (h : q_so fn fo g n i 31) : q_so fn fo g n (i - 1) (-30) := fun i' v' h1 h2 h3 h4 => h i' v' (by omega) h2 h3 h4
theorem q_so.put {fn fo : Nat → Value} {g n i v : Int} {x : Int32} (h : q_so fn fo g n i v) (hi : 0 ≤ i ∧ i < n ∧ -30 ≤ v ∧ v ≤ 30) (hb : i < n - 1 → q_so1 fn fo g (i + 1) v x.toInt) (hx : 0 ≤ x.toInt ∧ x.toInt ≤ 129 * (n - 1 - i)) : q_so fn (updV fo (61 * i + v + 30).toNat (.int x)) g n i (v + 1) := fun i' v' h1 h2 h3 h4 => by
  have key : ∀ (i' v' b : Int), i ≤ i' → q_so1 fn fo g (i' + 1) v' b → q_so1 fn (updV fo (61 * i + v + 30).toNat (.int x)) g (i' + 1) v' b := fun i' v' b hi' ⟨w, w1, w2, w3⟩ => ⟨w, w1, w2, by unfold q_ob; rw [q_iv_up (by omega)]; exact w3⟩
  by_cases e : i' = i ∧ v' = v
  · obtain ⟨rfl, rfl⟩ := e
    rw [q_iv_us]
    exact ⟨hx, fun q => key _ _ _ (Int.le_refl _) (hb q)⟩
  · rw [q_iv_up (by omega)]
    obtain ⟨g1, g2⟩ := h i' v' (by omega) h2 h3 h4
    exact ⟨g1, fun q => key _ _ _ (by omega) (g2 q)⟩
theorem q_so.new {fn fo : Nat → Value} {g n : Int} : q_so fn fo g n (n - 1) (-30) := fun i' v' h1 h2 h3 h4 => by omega
theorem q_ob_of {fn fo : Nat → Value} {i v : Int} {x k s o r : Int32} (hk : fn i.toNat = .int k) (ho : fo (61 * i + v + 30).toNat = .int o) (hx : x.toInt = v - k.toInt) (hs : (s.toInt = x.toInt ∨ s.toInt = -x.toInt) ∧ 0 ≤ s.toInt) (hr : r.toInt = s.toInt + o.toInt) : r.toInt = q_ob fn fo i v := by
  unfold q_ob
  rw [q_iv_at hk, q_iv_at ho]
  omega
theorem q_ob_rng {fn fo : Nat → Value} {i v : Int} {g n : Int} (h : q_so fn fo g n (i - 1) (-30)) (hi : i < n) (hv : -30 ≤ v ∧ v ≤ 30) (hk : -99 ≤ q_iv fn i ∧ q_iv fn i ≤ 99) : 0 ≤ q_ob fn fo i v ∧ q_ob fn fo i v ≤ 129 * (n - i) := by
  have := (h i v (by omega) hi hv.1 hv.2).1
  unfold q_ob
  omega
/-- from low on one is found -/
def q_se (fn fo : Nat → Value) (i low left : Int) : Prop := ∃ w : Int, (-30 ≤ w ∧ w ≤ 30) ∧ low ≤ w ∧ q_ob fn fo i w = left
theorem q_so1.se {fn fo : Nat → Value} {g i v b low : Int} (h : q_so1 fn fo g i v b) (hl : low ≤ v - g ∨ low ≤ -30) : q_se fn fo i low b := by
  obtain ⟨w, h1, h2, h3⟩ := h
  exact ⟨w, h1, by omega, h3⟩
theorem q_so1.mn {fn fo : Nat → Value} {g i v b w : Int} {x y r : Int32} (h : (b = 1000000000 ∧ y.toInt < 1000000000) ∨ q_so1 fn fo g i v b) (hb : x.toInt = b) (hw : (-30 ≤ w ∧ w ≤ 30) ∧ (v - g ≤ w ∧ w ≤ v + g)) (hy : y.toInt = q_ob fn fo i w) (hr : (r.toInt ≤ x.toInt ∧ r.toInt ≤ y.toInt) ∧ (r.toInt = x.toInt ∨ r.toInt = y.toInt)) : q_so1 fn fo g i v r.toInt := by
  rcases hr.2 with e | e
  · rcases h with h | h
    · omega
    · rw [e, hb]; exact h
  · rw [e, hy]; exact ⟨w, hw.1, hw.2, rfl⟩
theorem q_so1.step {fn fo : Nat → Value} {g n i v : Int} (h : q_so fn fo g n (-1) (-30)) (hi : 0 ≤ i ∧ i + 1 < n) (hv : -30 ≤ v ∧ v ≤ 30) : q_so1 fn fo g (i + 1) v (q_iv fo (61 * i + v + 30)) := (h i v (by omega) (by omega) hv.1 hv.2).2 (by omega)
theorem q_kerb {τ : q_T} {σ : q_V} {b : Nat} {i : Int} (hI : q_I τ σ) (hT : τ b = some (100, 549)) (hi : 0 ≤ i ∧ i ≤ 63) : -99 ≤ q_iv (σ b) i ∧ q_iv (σ b) i ≤ 99 := by
  obtain ⟨x, h1, h2⟩ := (hI b 100 549 hT i.toNat (by rw [q_limA (by decide)]; omega)).int (lo := -99) (hi := 99) (by
    unfold q_f
    rw [if_neg (by decide), if_pos rfl]
    unfold q_now
    rw [if_neg (by omega), if_neg (by omega), if_neg (by omega), if_pos (by omega)])
  rw [q_iv_at h1]
  exact h2
/-- how many joints two lines want -/
def q_jn (a b g : Int) : Int := if (-99 ≤ a ∧ a ≤ 99) ∧ (-99 ≤ b ∧ b ≤ 99) ∧ (0 ≤ g ∧ g ≤ 9) then (if a = b then 0 else if g = 0 then -2 else (((a - b).natAbs : Int) - 1) / g) else -1
theorem q_jdiv {f g : Int} (hg : ¬ g = 0) : (f + g - 1) / g - 1 = (f - 1) / g := by
  rw [show f + g - 1 = (f - 1) + g * 1 by omega, Int.add_mul_ediv_left _ _ hg]
  omega
theorem q_n512 {i : Int32} {a b : Int} (h : q_r i a b) (hd : 0 ≤ a ∧ (b < 512 ∨ 512 < a)) : (512 : Int32).toInt.toNat ≠ i.toInt.toNat := by
  have e : (512 : Int32).toInt.toNat = 512 := by decide
  rw [e]
  unfold q_r at h
  omega
