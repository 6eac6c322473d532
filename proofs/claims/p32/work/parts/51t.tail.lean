/-! the end of the constructor of a road, as a function -/
def kB_X7_init_tail_136 (rec136 : (Int → fx_U → fx_U)) (a0 : Nat) (p136_1 : Int) (w136 : fx_U) : fx_U :=
  (if p136_1 < 12 then fx_lr (w136 a0 13) fun b143 => fx_ls (fx_pt w136 b143 p136_1.toNat (-1)) fun u148 => fx_lr (u148 a0 14) fun b150 => fx_ls (fx_pt u148 b150 p136_1.toNat (-1)) fun u155 => fx_lt (p136_1 + 1) fun v156 => rec136 v156 u155 else fx_ls (f_X7_layAnew w136 a0 16) fun u165 => u165)
def kL_X7_init_tail_136 (a0 : Nat) : Nat → Int → fx_U → fx_U
  | 0, _, _ => (fun _ _ => 0)
  | n + 1, p136_1, w136 => kB_X7_init_tail_136 (kL_X7_init_tail_136 a0 n) a0 p136_1 w136
def f_X7_init_tail (u : fx_U) (a0 : Nat) : fx_U :=
  kL_X7_init_tail_136 a0 (Int.toNat (12 - 0) + 1) 0 u
