/-! what methods compute: laid by wip/p2/build.py -/
def f_X11_isIn (u : fx_U) (x0 : Int) (x1 : Int) (x2 : Int) : Int :=
  (if x0 < x1 then 0 else (if x2 < x0 then 0 else 1))
def f_X11_shifted (u : fx_U) (x0 : Int) : Int :=
  (if x0 = (-100) then (-2) else fx_lt (fx_b_add x0 100) fun v14 => v14)
def f_J9_max_7cf53 (u : fx_U) (x0 : Int) (x1 : Int) : Int :=
  (if x0 < x1 then x1 else x0)
def f_J9_min_7cf53 (u : fx_U) (x0 : Int) (x1 : Int) : Int :=
  (if x1 < x0 then x1 else x0)
def f_J9_abs_0f7a4 (u : fx_U) (x0 : Int) : Int :=
  (if x0 < 0 then fx_lt (fx_b_neg x0) fun v5 => v5 else x0)
def f_X11_heldIn (u : fx_U) (x0 : Int) (x1 : Int) (x2 : Int) : Int :=
  fx_lt (f_J9_min_7cf53 u x2 x0) fun v3 => fx_lt (f_J9_max_7cf53 u x1 v3) fun v6 => v6
def f_X7_isDot (u : fx_U) (a0 : Nat) (x1 : Int) : Int :=
  fx_lt (u a0 0) fun q_1v => (if x1 < 0 then 0 else (if x1 < q_1v then 1 else 0))
def f_X7_isStretch (u : fx_U) (a0 : Nat) (x1 : Int) (x2 : Int) : Int :=
  fx_lt (u a0 0) fun q_1v => fx_lt (f_X7_isDot u a0 x1) fun v2 => (if v2 = 0 then 0 else fx_lt (f_X7_isDot u a0 x2) fun v10 => (if v10 = 0 then 0 else (if x2 < x1 then 0 else 1)))
def f_X7_isPainted (u : fx_U) (a0 : Nat) (x1 : Int) : Int :=
  fx_lr (u a0 5) fun b1 => fx_lt (u b1 x1.toNat) fun v5 => (if v5 = (-100) then 0 else 1)
def f_X7_isSpoilt (u : fx_U) (a0 : Nat) (x1 : Int) : Int :=
  fx_lr (u a0 8) fun b1 => fx_lt (u b1 x1.toNat) fun v5 => (if v5 = (-2) then 0 else 1)
def f_X7_isWet (u : fx_U) (a0 : Nat) (x1 : Int) : Int :=
  fx_lt (f_X7_isPainted u a0 x1) fun v2 => (if v2 = 0 then 0 else fx_lt (u a0 17) fun v9 => fx_lr (u a0 6) fun b13 => fx_lt (u b13 x1.toNat) fun v17 => fx_lt (fx_b_sub v9 v17) fun v18 => fx_lr (u a0 7) fun b20 => fx_lt (u b20 x1.toNat) fun v24 => (if v18 < v24 then 1 else 0))
def kB_X7_painterOf_2 (rec2 : (Int → Int)) (u : fx_U) (a0 : Nat) (x1 : Int) (p2_2 : Int) : Int :=
  (if p2_2 < 2 then fx_lr (u a0 10) fun b8 => fx_lt (u b8 p2_2.toNat) fun v12 => (if v12 = x1 then p2_2 else fx_lt (p2_2 + 1) fun v19 => rec2 v19) else (-2))
def kL_X7_painterOf_2 (u : fx_U) (a0 : Nat) (x1 : Int) : Nat → Int → Int
  | 0, _ => 0
  | n + 1, p2_2 => kB_X7_painterOf_2 (kL_X7_painterOf_2 u a0 x1 n) u a0 x1 p2_2
def f_X7_painterOf (u : fx_U) (a0 : Nat) (x1 : Int) : Int :=
  kL_X7_painterOf_2 u a0 x1 (Int.toNat (2 - 0) + 1) 0
def f_X7_isBeingPainted (u : fx_U) (a0 : Nat) (x1 : Int) : Int :=
  fx_lt (f_X7_painterOf u a0 x1) fun v2 => (if v2 = (-2) then 0 else 1)
def kJ_X7_makeBare_56 (p33_2 : Int) (rec33 : (Int → fx_U → fx_U)) (w56 : fx_U) : fx_U :=
  fx_lt (p33_2 + 1) fun v56 => rec33 v56 w56
def kB_X7_makeBare_33 (rec33 : (Int → fx_U → fx_U)) (a0 : Nat) (x1 : Int) (p33_2 : Int) (w33 : fx_U) : fx_U :=
  (if p33_2 < 2 then fx_lr (w33 a0 10) fun b39 => fx_lt (w33 b39 p33_2.toNat) fun v43 => (if v43 = x1 then fx_ls (fx_pt w33 b39 p33_2.toNat (-2)) fun u55 => kJ_X7_makeBare_56 p33_2 rec33 u55 else kJ_X7_makeBare_56 p33_2 rec33 w33) else w33)
def kL_X7_makeBare_33 (a0 : Nat) (x1 : Int) : Nat → Int → fx_U → fx_U
  | 0, _, _ => (fun _ _ => 0)
  | n + 1, p33_2, w33 => kB_X7_makeBare_33 (kL_X7_makeBare_33 a0 x1 n) a0 x1 p33_2 w33
def f_X7_makeBare (u : fx_U) (a0 : Nat) (x1 : Int) : fx_U :=
  fx_lr (u a0 5) fun b1 => fx_ls (fx_pt u b1 x1.toNat (-100)) fun u7 => fx_lr (u7 a0 6) fun b9 => fx_ls (fx_pt u7 b9 x1.toNat (-2)) fun u15 => fx_lr (u15 a0 7) fun b17 => fx_ls (fx_pt u15 b17 x1.toNat 0) fun u22 => fx_lr (u22 a0 8) fun b24 => fx_ls (fx_pt u22 b24 x1.toNat (-2)) fun u30 => kL_X7_makeBare_33 a0 x1 (Int.toNat (2 - 0) + 1) 0 u30
def kB_X7_layAnew_55 (rec55 : (Int → fx_U → fx_U)) (a0 : Nat) (p55_2 : Int) (w55 : fx_U) : fx_U :=
  (if p55_2 < 2 then fx_lr (w55 a0 9) fun b61 => fx_ls (fx_pt w55 b61 p55_2.toNat 0) fun u66 => fx_lr (u66 a0 10) fun b68 => fx_ls (fx_pt u66 b68 p55_2.toNat (-2)) fun u74 => fx_lt (p55_2 + 1) fun v75 => rec55 v75 u74 else w55)
def kL_X7_layAnew_55 (a0 : Nat) : Nat → Int → fx_U → fx_U
  | 0, _, _ => (fun _ _ => 0)
  | n + 1, p55_2, w55 => kB_X7_layAnew_55 (kL_X7_layAnew_55 a0 n) a0 p55_2 w55
def kB_X7_layAnew_7 (rec7 : (Int → fx_U → fx_U)) (q_1b : Nat) (q_2b : Nat) (q_3b : Nat) (a0 : Nat) (p7_2 : Int) (w7 : fx_U) : fx_U :=
  (if p7_2 < 64 then fx_ls (fx_pt w7 q_1b p7_2.toNat 0) fun u19 => fx_ls (fx_pt u19 q_2b p7_2.toNat 0) fun u26 => fx_ls (fx_pt u26 q_3b p7_2.toNat 0) fun u33 => fx_lr (u33 a0 4) fun b35 => fx_ls (fx_pt u33 b35 p7_2.toNat (-100)) fun u41 => fx_ls (f_X7_makeBare u41 a0 p7_2) fun u44 => fx_lt (p7_2 + 1) fun v47 => rec7 v47 u44 else kL_X7_layAnew_55 a0 (Int.toNat (2 - 0) + 1) 0 w7)
def kL_X7_layAnew_7 (q_1b : Nat) (q_2b : Nat) (q_3b : Nat) (a0 : Nat) : Nat → Int → fx_U → fx_U
  | 0, _, _ => (fun _ _ => 0)
  | n + 1, p7_2, w7 => kB_X7_layAnew_7 (kL_X7_layAnew_7 q_1b q_2b q_3b a0 n) q_1b q_2b q_3b a0 p7_2 w7
def f_X7_layAnew (u : fx_U) (a0 : Nat) (x1 : Int) : fx_U :=
  fx_lr (u a0 1) fun q_1b => fx_lr (u a0 2) fun q_2b => fx_lr (u a0 3) fun q_3b => fx_ls (fx_pt u a0 0 x1) fun u2 => kL_X7_layAnew_7 q_1b q_2b q_3b a0 (Int.toNat (64 - 0) + 1) 0 u2
def f_X7_rowOf (u : fx_U) (a0 : Nat) (x1 : Int) : Nat :=
  (if x1 = 0 then fx_lr (u a0 1) fun b5 => b5 else (if x1 = 1 then fx_lr (u a0 2) fun b15 => b15 else fx_lr (u a0 3) fun b22 => b22))
def f_X7_spoil (u : fx_U) (a0 : Nat) (x1 : Int) (x2 : Int) : fx_U :=
  fx_lr (u a0 8) fun b1 => fx_lt (u b1 x1.toNat) fun v5 => (if v5 = (-2) then fx_ls (fx_pt u b1 x1.toNat x2) fun u17 => u17 else u)
def f_X7_offsetBy (u : fx_U) (a0 : Nat) (x1 : Int) (x2 : Int) : Int :=
  fx_lr (u a0 1) fun b1 => fx_lt (u b1 x2.toNat) fun v5 => fx_lr (u a0 12) fun b7 => fx_lt (u b7 x1.toNat) fun v11 => fx_lt (fx_b_add v5 v11) fun v12 => fx_lt (f_X11_heldIn u v12 (-99) 99) fun v17 => v17
def kJ_X7_nextFor_45 (p2_2 : Int) (rec2 : (Int → Int)) : Int :=
  fx_lt (p2_2 + 1) fun v45 => rec2 v45
def kJ_X7_nextFor_26 (u : fx_U) (a0 : Nat) (p2_2 : Int) (rec2 : (Int → Int)) (p26_s0 : Int) : Int :=
  fx_lt (f_X7_isPainted u a0 p26_s0) fun v29 => (if v29 = 0 then fx_lt (f_X7_isBeingPainted u a0 p26_s0) fun v37 => (if v37 = 0 then p26_s0 else kJ_X7_nextFor_45 p2_2 rec2) else kJ_X7_nextFor_45 p2_2 rec2)
def kB_X7_nextFor_2 (rec2 : (Int → Int)) (u : fx_U) (a0 : Nat) (x1 : Int) (p2_2 : Int) : Int :=
  fx_lt (u a0 0) fun v4 => (if p2_2 < v4 then (if x1 = 0 then kJ_X7_nextFor_26 u a0 p2_2 rec2 p2_2 else fx_lt (v4 - 1) fun v23 => fx_lt (v23 - p2_2) fun v25 => kJ_X7_nextFor_26 u a0 p2_2 rec2 v25) else (-2))
def kL_X7_nextFor_2 (u : fx_U) (a0 : Nat) (x1 : Int) : Nat → Int → Int
  | 0, _ => 0
  | n + 1, p2_2 => kB_X7_nextFor_2 (kL_X7_nextFor_2 u a0 x1 n) u a0 x1 p2_2
def f_X7_nextFor (u : fx_U) (a0 : Nat) (x1 : Int) : Int :=
  kL_X7_nextFor_2 u a0 x1 (Int.toNat (64 - 0) + 1) 0
def kJ_X7_wetDots_26 (p4_1 : Int) (p4_2 : Int) (rec4 : (Int → Int → Int)) (p26_s0 : Int) : Int :=
  fx_lt (fx_b_add p4_1 p26_s0) fun v26 => fx_lt (p4_2 + 1) fun v28 => rec4 v26 v28
def kB_X7_wetDots_4 (rec4 : (Int → Int → Int)) (u : fx_U) (a0 : Nat) (p4_1 : Int) (p4_2 : Int) : Int :=
  fx_lt (u a0 0) fun v6 => (if p4_2 < v6 then fx_lt (f_X7_isWet u a0 p4_2) fun v15 => (if v15 = 0 then kJ_X7_wetDots_26 p4_1 p4_2 rec4 0 else kJ_X7_wetDots_26 p4_1 p4_2 rec4 1) else p4_1)
def kL_X7_wetDots_4 (u : fx_U) (a0 : Nat) : Nat → Int → Int → Int
  | 0, _, _ => 0
  | n + 1, p4_1, p4_2 => kB_X7_wetDots_4 (kL_X7_wetDots_4 u a0 n) u a0 p4_1 p4_2
def f_X7_wetDots (u : fx_U) (a0 : Nat) : Int :=
  kL_X7_wetDots_4 u a0 (Int.toNat (64 - 0) + 1) 0 0
def kJ_X7_conesInUse_29 (p7_1 : Int) (p7_2 : Int) (rec7 : (Int → Int → Int)) (p29_s0 : Int) : Int :=
  fx_lt (fx_b_add p7_1 p29_s0) fun v29 => fx_lt (p7_2 + 1) fun v31 => rec7 v29 v31
def kB_X7_conesInUse_7 (rec7 : (Int → Int → Int)) (u : fx_U) (a0 : Nat) (p7_1 : Int) (p7_2 : Int) : Int :=
  (if p7_2 < 2 then fx_lr (u a0 10) fun b14 => fx_lt (u b14 p7_2.toNat) fun v18 => (if v18 = (-2) then kJ_X7_conesInUse_29 p7_1 p7_2 rec7 0 else kJ_X7_conesInUse_29 p7_1 p7_2 rec7 1) else p7_1)
def kL_X7_conesInUse_7 (u : fx_U) (a0 : Nat) : Nat → Int → Int → Int
  | 0, _, _ => 0
  | n + 1, p7_1, p7_2 => kB_X7_conesInUse_7 (kL_X7_conesInUse_7 u a0 n) u a0 p7_1 p7_2
def f_X7_conesInUse (u : fx_U) (a0 : Nat) : Int :=
  fx_lt (f_X7_wetDots u a0) fun v1 => kL_X7_conesInUse_7 u a0 (Int.toNat (2 - 0) + 1) v1 0
def kJ_X7_paintedDots_26 (p4_1 : Int) (p4_2 : Int) (rec4 : (Int → Int → Int)) (p26_s0 : Int) : Int :=
  fx_lt (fx_b_add p4_1 p26_s0) fun v26 => fx_lt (p4_2 + 1) fun v28 => rec4 v26 v28
def kB_X7_paintedDots_4 (rec4 : (Int → Int → Int)) (u : fx_U) (a0 : Nat) (p4_1 : Int) (p4_2 : Int) : Int :=
  fx_lt (u a0 0) fun v6 => (if p4_2 < v6 then fx_lt (f_X7_isPainted u a0 p4_2) fun v15 => (if v15 = 0 then kJ_X7_paintedDots_26 p4_1 p4_2 rec4 0 else kJ_X7_paintedDots_26 p4_1 p4_2 rec4 1) else p4_1)
def kL_X7_paintedDots_4 (u : fx_U) (a0 : Nat) : Nat → Int → Int → Int
  | 0, _, _ => 0
  | n + 1, p4_1, p4_2 => kB_X7_paintedDots_4 (kL_X7_paintedDots_4 u a0 n) u a0 p4_1 p4_2
def f_X7_paintedDots (u : fx_U) (a0 : Nat) : Int :=
  kL_X7_paintedDots_4 u a0 (Int.toNat (64 - 0) + 1) 0 0
def kJ_X7_spoiltDots_26 (p4_1 : Int) (p4_2 : Int) (rec4 : (Int → Int → Int)) (p26_s0 : Int) : Int :=
  fx_lt (fx_b_add p4_1 p26_s0) fun v26 => fx_lt (p4_2 + 1) fun v28 => rec4 v26 v28
def kB_X7_spoiltDots_4 (rec4 : (Int → Int → Int)) (u : fx_U) (a0 : Nat) (p4_1 : Int) (p4_2 : Int) : Int :=
  fx_lt (u a0 0) fun v6 => (if p4_2 < v6 then fx_lt (f_X7_isSpoilt u a0 p4_2) fun v15 => (if v15 = 0 then kJ_X7_spoiltDots_26 p4_1 p4_2 rec4 0 else kJ_X7_spoiltDots_26 p4_1 p4_2 rec4 1) else p4_1)
def kL_X7_spoiltDots_4 (u : fx_U) (a0 : Nat) : Nat → Int → Int → Int
  | 0, _, _ => 0
  | n + 1, p4_1, p4_2 => kB_X7_spoiltDots_4 (kL_X7_spoiltDots_4 u a0 n) u a0 p4_1 p4_2
def f_X7_spoiltDots (u : fx_U) (a0 : Nat) : Int :=
  kL_X7_spoiltDots_4 u a0 (Int.toNat (64 - 0) + 1) 0 0
def kJ_X7_offKerb_41 (p4_1 : Int) (p4_2 : Int) (rec4 : (Int → Int → Int)) (p41_s0 : Int) : Int :=
  fx_lt (fx_b_add p4_1 p41_s0) fun v41 => fx_lt (p4_2 + 1) fun v43 => rec4 v41 v43
def kB_X7_offKerb_4 (rec4 : (Int → Int → Int)) (u : fx_U) (a0 : Nat) (p4_1 : Int) (p4_2 : Int) : Int :=
  fx_lt (u a0 0) fun v6 => (if p4_2 < v6 then fx_lt (f_X7_isPainted u a0 p4_2) fun v15 => (if v15 = 0 then kJ_X7_offKerb_41 p4_1 p4_2 rec4 0 else fx_lr (u a0 5) fun b22 => fx_lt (u b22 p4_2.toNat) fun v26 => fx_lr (u a0 1) fun b28 => fx_lt (u b28 p4_2.toNat) fun v32 => fx_lt (fx_b_sub v26 v32) fun v33 => fx_lt (f_J9_abs_0f7a4 u v33) fun v34 => kJ_X7_offKerb_41 p4_1 p4_2 rec4 v34) else p4_1)
def kL_X7_offKerb_4 (u : fx_U) (a0 : Nat) : Nat → Int → Int → Int
  | 0, _, _ => 0
  | n + 1, p4_1, p4_2 => kB_X7_offKerb_4 (kL_X7_offKerb_4 u a0 n) u a0 p4_1 p4_2
def f_X7_offKerb (u : fx_U) (a0 : Nat) : Int :=
  kL_X7_offKerb_4 u a0 (Int.toNat (64 - 0) + 1) 0 0
def f_X3_clear (u : fx_U) (a0 : Nat) : fx_U :=
  fx_ls (fx_pt u a0 0 0) fun u2 => fx_ls (fx_pt u2 a0 1 0) fun u7 => fx_ls (fx_pt u7 a0 2 0) fun u12 => u12
def f_X3_beginClause (u : fx_U) (a0 : Nat) (x1 : Int) : fx_U :=
  fx_lt (u a0 0) fun v1 => (if v1 < 16 then fx_lr (u a0 5) fun b10 => fx_ls (fx_pt u b10 v1.toNat x1) fun u18 => fx_lr (u18 a0 6) fun b20 => fx_lt (u18 a0 1) fun v28 => fx_ls (fx_pt u18 b20 v1.toNat v28) fun u31 => fx_lt (v1 + 1) fun v38 => fx_ls (fx_pt u31 a0 0 v38) fun u39 => u39 else u)
def f_X3_beginCondition (u : fx_U) (a0 : Nat) : fx_U :=
  fx_lt (u a0 0) fun v1 => (if 0 < v1 then fx_lr (u a0 7) fun b8 => fx_lt (v1 - 1) fun v16 => fx_lt (u a0 1) fun v18 => fx_ls (fx_pt u b8 v16.toNat v18) fun u21 => u21 else u)
def kJ_X3_add_29 (a0 : Nat) (v1 : Int) (x1 : Int) (x2 : Int) (w29 : fx_U) : Int × fx_U :=
  fx_lr (w29 a0 3) fun b30 => fx_ls (fx_pt w29 b30 v1.toNat x1) fun u38 => fx_lr (u38 a0 4) fun b40 => fx_ls (fx_pt u38 b40 v1.toNat x2) fun u48 => fx_lt (v1 + 1) fun v55 => fx_ls (fx_pt u48 a0 1 v55) fun u56 => fx_lt (v55 - 1) fun v64 => (v64, u56)
def f_X3_add (u : fx_U) (a0 : Nat) (x1 : Int) (x2 : Int) : Int × fx_U :=
  fx_lt (u a0 1) fun v1 => (if v1 < 240 then (if x1 = 105 then (if x2 = 116 then fx_ls (fx_pt u a0 2 1) fun u26 => kJ_X3_add_29 a0 v1 x1 x2 u26 else kJ_X3_add_29 a0 v1 x1 x2 u) else kJ_X3_add_29 a0 v1 x1 x2 u) else ((-1), u))
def f_X3_leadHere (u : fx_U) (a0 : Nat) (x1 : Int) : fx_U :=
  (if x1 < 0 then u else fx_lt (u a0 1) fun v6 => (if x1 < v6 then fx_lr (u a0 4) fun b13 => fx_ls (fx_pt u b13 x1.toNat v6) fun u21 => u21 else u))
def f_X3_highest (u : fx_U) (x0 : Int) : Int :=
  (if x0 = 112 then 9 else (if x0 = 115 then 63 else 99))
def f_X3_push (u : fx_U) (a0 : Nat) (x1 : Int) : fx_U :=
  fx_lt (u a0 9) fun v1 => (if v1 < 32 then fx_lr (u a0 8) fun b10 => fx_ls (fx_pt u b10 v1.toNat x1) fun u18 => fx_lt (v1 + 1) fun v25 => fx_ls (fx_pt u18 a0 9 v25) fun u26 => u26 else u)
def f_X3_pop (u : fx_U) (a0 : Nat) : Int × fx_U :=
  fx_lt (u a0 9) fun v1 => (if 0 < v1 then fx_lt (v1 - 1) fun v15 => fx_ls (fx_pt u a0 9 v15) fun u16 => fx_lr (u16 a0 8) fun b20 => fx_lt (u16 b20 v15.toNat) fun v27 => (v27, u16) else (0, u))
def f_X3_reckon (u : fx_U) (a0 : Nat) (x1 : Int) (x2 : Int) (x3 : Int) : Int × fx_U :=
  (if x1 = 42 then fx_lt (fx_b_mul x2 x3) fun v70 => (v70, u) else (if x1 = 43 then fx_lt (fx_b_add x2 x3) fun v62 => (v62, u) else (if x1 = 45 then fx_lt (fx_b_sub x2 x3) fun v66 => (v66, u) else (if x1 = 60 then (if x2 < x3 then (1, u) else (0, u)) else (if x1 = 61 then (if x2 = x3 then (1, u) else (0, u)) else (if x1 = 62 then (if x3 < x2 then (1, u) else (0, u)) else (if x3 = 0 then fx_ls (fx_pt u a0 10 1) fun u111 => (0, u111) else (if x1 = 47 then fx_lt (fx_b_div x2 x3) fun v124 => (v124, u) else fx_lt (fx_b_rem x2 x3) fun v130 => (v130, u)))))))))
def f_X3_valueOf (u : fx_U) (a0 : Nat) (x1 : Int) : Int :=
  fx_lr (u a0 11) fun ar => fx_lt (u a0 12) fun v8 => (if v8 < 0 then 0 else fx_lt (u ar 0) fun v22 => (if v8 < v22 then (if x1 = 97 then fx_lt (u a0 14) fun v236 => v236 else (if x1 = 98 then 0 else (if x1 = 99 then (if v8 = 0 then 0 else fx_lr (u ar 1) fun b208 => fx_lt (u b208 v8.toNat) fun v215 => fx_lt (v8 - 1) fun v228 => fx_lt (u b208 v228.toNat) fun v229 => fx_lt (fx_b_sub v215 v229) fun v230 => fx_lt (f_J9_abs_0f7a4 u v230) fun v231 => v231) else (if x1 = 100 then 0 else (if x1 = 101 then 0 else (if x1 = 102 then 0 else (if x1 = 103 then 0 else (if x1 = 104 then fx_lr (u ar 2) fun b166 => fx_lt (u b166 v8.toNat) fun v173 => v173 else (if x1 = 105 then v8 else (if x1 = 106 then 0 else (if x1 = 107 then fx_lr (u ar 1) fun b153 => fx_lt (u b153 v8.toNat) fun v160 => v160 else (if x1 = 108 then 0 else (if x1 = 109 then 0 else (if x1 = 110 then v22 else (if x1 = 111 then 0 else (if x1 = 112 then 0 else (if x1 = 113 then 0 else (if x1 = 114 then fx_lt (u a0 15) fun v241 => v241 else (if x1 = 115 then 0 else (if x1 = 116 then fx_lt (u a0 13) fun v189 => v189 else (if x1 = 117 then 0 else (if x1 = 118 then 0 else (if x1 = 119 then fx_lr (u ar 3) fun b179 => fx_lt (u b179 v8.toNat) fun v186 => v186 else 0))))))))))))))))))))))) else 0))
def kJ_X3_skipOrGoOn_37 (x1 : Int) (u1 : fx_U) (a0 : Nat) (v1 : Int) (p37_s0 : Int) : Int × fx_U :=
  (if p37_s0 = 0 then fx_lt (x1 + 1) fun v56 => (v56, u1) else fx_ls (f_X3_push u1 a0 v1) fun u44 => fx_lr (u44 a0 4) fun b48 => fx_lt (u44 b48 x1.toNat) fun v52 => (v52, u44))
def f_X3_skipOrGoOn (u : fx_U) (a0 : Nat) (x1 : Int) : Int × fx_U :=
  fx_lc (f_X3_pop u a0) fun v1 u1 => fx_lr (u1 a0 3) fun b6 => fx_lt (u1 b6 x1.toNat) fun v10 => (if v10 = 124 then (if v1 = 0 then kJ_X3_skipOrGoOn_37 x1 u1 a0 v1 0 else kJ_X3_skipOrGoOn_37 x1 u1 a0 v1 1) else (if v1 = 0 then kJ_X3_skipOrGoOn_37 x1 u1 a0 v1 1 else kJ_X3_skipOrGoOn_37 x1 u1 a0 v1 0))
def kJ_X3_take_86 (u : fx_U) (a0 : Nat) (x1 : Int) : Int × fx_U :=
  fx_lc (f_X3_skipOrGoOn u a0 x1) fun v88 u88 => (v88, u88)
def kJ_X3_take_68 (u57 : fx_U) (a0 : Nat) (x1 : Int) (p68_s0 : Int) : Int × fx_U :=
  fx_ls (f_X3_push u57 a0 p68_s0) fun u68 => fx_lt (x1 + 1) fun v117 => (v117, u68)
def f_X3_take (u : fx_U) (a0 : Nat) (x1 : Int) : Int × fx_U :=
  fx_lr (u a0 11) fun ar => fx_lr (u a0 3) fun b1 => fx_lt (u b1 x1.toNat) fun v5 => (if v5 = 48 then fx_lr (u a0 4) fun b15 => fx_lt (u b15 x1.toNat) fun v19 => fx_ls (f_X3_push u a0 v19) fun u20 => fx_lt (x1 + 1) fun v117 => (v117, u20) else (if v5 = 105 then fx_lr (u a0 4) fun b35 => fx_lt (u b35 x1.toNat) fun v39 => fx_lt (f_X3_valueOf u a0 v39) fun v40 => fx_ls (f_X3_push u a0 v40) fun u43 => fx_lt (x1 + 1) fun v117 => (v117, u43) else (if v5 = 33 then fx_lc (f_X3_pop u a0) fun v57 u57 => (if v57 = 0 then kJ_X3_take_68 u57 a0 x1 1 else kJ_X3_take_68 u57 a0 x1 0) else (if v5 = 124 then kJ_X3_take_86 u a0 x1 else (if v5 = 38 then kJ_X3_take_86 u a0 x1 else fx_lc (f_X3_pop u a0) fun v93 u93 => fx_lc (f_X3_pop u93 a0) fun v98 u98 => fx_lc (f_X3_reckon u98 a0 v5 v98 v93) fun v109 u109 => fx_ls (f_X3_push u109 a0 v109) fun u112 => fx_lt (x1 + 1) fun v117 => (v117, u112))))))
def kJ_X3_run_69 (w14 : fx_U) (a0 : Nat) : Int × fx_U :=
  fx_lc (f_X3_pop w14 a0) fun v70 u70 => (v70, u70)
def kB_X3_run_14 (rec14 : (Int → Int → fx_U → Int × fx_U)) (a0 : Nat) (p14_2 : Int) (p14_3 : Int) (w14 : fx_U) : Int × fx_U :=
  fx_lt (w14 a0 1) fun v16 => (if p14_3 < v16 then (if p14_2 < 0 then kJ_X3_run_69 w14 a0 else (if p14_2 < v16 then fx_lr (w14 a0 3) fun b35 => fx_lt (w14 b35 p14_2.toNat) fun v39 => (if v39 = 59 then kJ_X3_run_69 w14 a0 else fx_lc (f_X3_take w14 a0 p14_2) fun v50 u50 => fx_lt (u50 a0 10) fun v55 => (if v55 = 0 then fx_lt (p14_3 + 1) fun v63 => rec14 v50 v63 u50 else (0, u50))) else kJ_X3_run_69 w14 a0)) else kJ_X3_run_69 w14 a0)
def kL_X3_run_14 (a0 : Nat) : Nat → Int → Int → fx_U → Int × fx_U
  | 0, _, _, _ => (0, fun _ _ => 0)
  | n + 1, p14_2, p14_3, w14 => kB_X3_run_14 (kL_X3_run_14 a0 n) a0 p14_2 p14_3 w14
def f_X3_run (u : fx_U) (a0 : Nat) (x1 : Int) : Int × fx_U :=
  fx_lr (u a0 11) fun ar => fx_ls (fx_pt u a0 10 0) fun u2 => fx_ls (fx_pt u2 a0 9 0) fun u7 => kL_X3_run_14 a0 (Int.toNat (240 - 0) + 1) x1 0 u7
def kJ_X3_ask_99 (p44_8 : Int) (rec44 : (Int → fx_U → Int × fx_U)) (w99 : fx_U) : Int × fx_U :=
  fx_lt (p44_8 + 1) fun v99 => rec44 v99 w99
def kB_X3_ask_44 (rec44 : (Int → fx_U → Int × fx_U)) (a0 : Nat) (x1 : Int) (p39_s0 : Int) (p44_8 : Int) (w44 : fx_U) : Int × fx_U :=
  fx_lt (w44 a0 0) fun v47 => (if p44_8 < v47 then fx_lr (w44 a0 5) fun b54 => fx_lt (w44 b54 p44_8.toNat) fun v59 => (if v59 = x1 then fx_lr (w44 a0 7) fun b66 => fx_lt (w44 b66 p44_8.toNat) fun v71 => fx_lc (f_X3_run w44 a0 v71) fun v72 u72 => (if v72 = 0 then kJ_X3_ask_99 p44_8 rec44 u72 else fx_lr (u72 a0 6) fun b80 => fx_lt (u72 b80 p44_8.toNat) fun v85 => fx_lc (f_X3_run u72 a0 v85) fun v86 u86 => fx_lt (f_X3_highest u86 x1) fun v92 => fx_lt (f_X11_heldIn u86 v86 p39_s0 v92) fun v95 => (v95, u86)) else kJ_X3_ask_99 p44_8 rec44 w44) else (p39_s0, w44))
def kL_X3_ask_44 (a0 : Nat) (x1 : Int) (p39_s0 : Int) : Nat → Int → fx_U → Int × fx_U
  | 0, _, _ => (0, fun _ _ => 0)
  | n + 1, p44_8, w44 => kB_X3_ask_44 (kL_X3_ask_44 a0 x1 p39_s0 n) a0 x1 p39_s0 p44_8 w44
def kJ_X3_ask_39 (a0 : Nat) (x1 : Int) (u25 : fx_U) (p39_s0 : Int) : Int × fx_U :=
  kL_X3_ask_44 a0 x1 p39_s0 (Int.toNat (16 - 0) + 1) 0 u25
def f_X3_ask (u : fx_U) (a0 : Nat) (x1 : Int) (a2 : Nat) (x3 : Int) (x4 : Int) (x5 : Int) (x6 : Int) : Int × fx_U :=
  fx_ls (fx_pt u a0 11 (a2 : Nat)) fun u2 => fx_ls (fx_pt u2 a0 12 x3) fun u7 => fx_ls (fx_pt u7 a0 13 x4) fun u13 => fx_ls (fx_pt u13 a0 14 x5) fun u19 => fx_ls (fx_pt u19 a0 15 x6) fun u25 => (if x1 = 112 then kJ_X3_ask_39 a0 x1 u25 1 else kJ_X3_ask_39 a0 x1 u25 0)
def f_X8_peek (u : fx_U) (a0 : Nat) : Int :=
  fx_lr (u a0 1) fun at1 => fx_lt (u a0 3) fun v1 => (if v1 < 0 then (-1) else fx_lt (u a0 2) fun v12 => (if v1 < v12 then fx_lt (u at1 v1.toNat) fun v26 => v26 else (-1)))
def f_X8_fail (u : fx_U) (a0 : Nat) (x1 : Int) (x2 : Int) : Int × fx_U :=
  fx_lt (fx_b_mul (-1000) x1) fun v5 => fx_lt (fx_b_sub v5 x2) fun v7 => fx_ls (fx_pt u a0 5 v7) fun u8 => (0, u8)
def kB_X8_sumOfAmounts_4 (rec4 : (Int → Int → Int)) (u : fx_U) (a0 : Nat) (p4_1 : Int) (p4_2 : Int) : Int :=
  fx_lt (u a0 4) fun v6 => (if p4_2 < v6 then fx_lr (u a0 0) fun b14 => fx_lt (u b14 p4_2.toNat) fun v18 => fx_lt (f_J9_abs_0f7a4 u v18) fun v19 => fx_lt (fx_b_add p4_1 v19) fun v22 => fx_lt (p4_2 + 1) fun v24 => rec4 v22 v24 else p4_1)
def kL_X8_sumOfAmounts_4 (u : fx_U) (a0 : Nat) : Nat → Int → Int → Int
  | 0, _, _ => 0
  | n + 1, p4_1, p4_2 => kB_X8_sumOfAmounts_4 (kL_X8_sumOfAmounts_4 u a0 n) u a0 p4_1 p4_2
def f_X8_sumOfAmounts (u : fx_U) (a0 : Nat) : Int :=
  kL_X8_sumOfAmounts_4 u a0 (Int.toNat (64 - 0) + 1) 0 0
def kB_X8_readNumber_4 (rec4 : (Int → Int → fx_U → Int × fx_U)) (a0 : Nat) (p4_1 : Int) (p4_2 : Int) (w4 : fx_U) : Int × fx_U :=
  (if p4_2 < 2 then fx_lt (f_X8_peek w4 a0) fun v10 => fx_lt (f_X11_isIn w4 v10 48 57) fun v17 => (if v17 = 0 then (p4_1, w4) else fx_lt (f_J9_max_7cf53 w4 0 p4_1) fun v25 => fx_lt (fx_b_mul v25 10) fun v30 => fx_lt (f_X8_peek w4 a0) fun v32 => fx_lt (fx_b_add v30 v32) fun v35 => fx_lt (fx_b_sub v35 48) fun v38 => fx_lt (w4 a0 3) fun v42 => fx_lt (fx_b_add v42 1) fun v46 => fx_ls (fx_pt w4 a0 3 v46) fun u47 => fx_lt (p4_2 + 1) fun v50 => rec4 v38 v50 u47) else (p4_1, w4))
def kL_X8_readNumber_4 (a0 : Nat) : Nat → Int → Int → fx_U → Int × fx_U
  | 0, _, _, _ => (0, fun _ _ => 0)
  | n + 1, p4_1, p4_2, w4 => kB_X8_readNumber_4 (kL_X8_readNumber_4 a0 n) a0 p4_1 p4_2 w4
def f_X8_readNumber (u : fx_U) (a0 : Nat) : Int × fx_U :=
  fx_lr (u a0 1) fun at1 => kL_X8_readNumber_4 a0 (Int.toNat (2 - 0) + 1) (-1) 0 u
def kJ_X8_readValue_180 (w157 : fx_U) (a0 : Nat) (v1 : Int) : Int × fx_U :=
  fx_lc (f_X8_fail w157 a0 6 v1) fun v184 u184 => (v184, u184)
def kJ_X8_readValue_219 (w191 : fx_U) (b199 : Nat) (F191 : Int) (a0 : Nat) (p191_8 : Int) (rec191 : (Int → fx_U → Int → Int × fx_U)) (p219_s0 : Int) : Int × fx_U :=
  fx_ls (fx_pt w191 b199 F191.toNat p219_s0) fun u219 => fx_lt (F191 + 1) fun v226 => fx_ls (fx_pt u219 a0 4 v226) fun u227 => fx_lt (p191_8 + 1) fun v230 => rec191 v230 u227 v226
def kB_X8_readValue_191 (rec191 : (Int → fx_U → Int → Int × fx_U)) (p157_7 : Int) (a0 : Nat) (p23_s0 : Int) (v51 : Int) (p191_8 : Int) (w191 : fx_U) (F191 : Int) : Int × fx_U :=
  (if p191_8 < p157_7 then fx_lr (w191 a0 0) fun b199 => (if p23_s0 = 0 then kJ_X8_readValue_219 w191 b199 F191 a0 p191_8 rec191 v51 else fx_lt (-v51) fun v213 => kJ_X8_readValue_219 w191 b199 F191 a0 p191_8 rec191 v213) else (1, w191))
def kL_X8_readValue_191 (p157_7 : Int) (a0 : Nat) (p23_s0 : Int) (v51 : Int) : Nat → Int → fx_U → Int → Int × fx_U
  | 0, _, _, _ => (0, fun _ _ => 0)
  | n + 1, p191_8, w191, F191 => kB_X8_readValue_191 (kL_X8_readValue_191 p157_7 a0 p23_s0 v51 n) p157_7 a0 p23_s0 v51 p191_8 w191 F191
def kJ_X8_readValue_157 (a0 : Nat) (x1 : Int) (v1 : Int) (p23_s0 : Int) (v51 : Int) (p157_7 : Int) (w157 : fx_U) : Int × fx_U :=
  fx_lt (w157 a0 4) fun v158 => fx_lt (v158 + p157_7) fun v163 => (if x1 < v163 then kJ_X8_readValue_180 w157 a0 v1 else (if 64 < v163 then kJ_X8_readValue_180 w157 a0 v1 else kL_X8_readValue_191 p157_7 a0 p23_s0 v51 (Int.toNat (64 - 0) + 1) 0 w157 v158))
def kJ_X8_readValue_89 (u51 : fx_U) (a0 : Nat) (x1 : Int) (v1 : Int) (p23_s0 : Int) (v51 : Int) : Int × fx_U :=
  fx_lt (f_X8_peek u51 a0) fun v93 => (if v93 = 42 then fx_lt (u51 a0 3) fun v103 => fx_lt (fx_b_add v103 1) fun v107 => fx_ls (fx_pt u51 a0 3 v107) fun u108 => fx_lc (f_X8_readNumber u108 a0) fun v118 u118 => (if v118 < 0 then fx_lt (u118 a0 3) fun v131 => fx_lc (f_X8_fail u118 a0 1 v131) fun v134 u134 => (v134, u134) else fx_lt (f_X11_isIn u118 v118 2 64) fun v143 => (if v143 = 0 then fx_lc (f_X8_fail u118 a0 3 v107) fun v153 u153 => (v153, u153) else kJ_X8_readValue_157 a0 x1 v1 p23_s0 v51 v118 u118)) else kJ_X8_readValue_157 a0 x1 v1 p23_s0 v51 1 u51)
def kJ_X8_readValue_40 (v1 : Int) (u : fx_U) (a0 : Nat) (p23_s0 : Int) (x1 : Int) (p40_s0 : Int) : Int × fx_U :=
  fx_lt (fx_b_add v1 p40_s0) fun v40 => fx_ls (fx_pt u a0 3 v40) fun u41 => fx_lc (f_X8_readNumber u41 a0) fun v51 u51 => (if v51 < 0 then fx_lt (u51 a0 3) fun v64 => fx_lc (f_X8_fail u51 a0 1 v64) fun v67 u67 => (v67, u67) else (if p23_s0 = 0 then kJ_X8_readValue_89 u51 a0 x1 v1 p23_s0 v51 else (if v51 = 0 then fx_lc (f_X8_fail u51 a0 1 v40) fun v85 u85 => (v85, u85) else kJ_X8_readValue_89 u51 a0 x1 v1 p23_s0 v51)))
def kJ_X8_readValue_23 (v1 : Int) (u : fx_U) (a0 : Nat) (x1 : Int) (p23_s0 : Int) : Int × fx_U :=
  (if p23_s0 = 0 then kJ_X8_readValue_40 v1 u a0 p23_s0 x1 0 else kJ_X8_readValue_40 v1 u a0 p23_s0 x1 1)
def kJ_X8_readValue_22 (v1 : Int) (u : fx_U) (a0 : Nat) (x1 : Int) : Int × fx_U :=
  kJ_X8_readValue_23 v1 u a0 x1 0
def f_X8_readValue (u : fx_U) (a0 : Nat) (x1 : Int) (x2 : Int) : Int × fx_U :=
  fx_lr (u a0 1) fun at1 => fx_lt (u a0 3) fun v1 => (if x2 = 0 then kJ_X8_readValue_22 v1 u a0 x1 else fx_lt (f_X8_peek u a0) fun v10 => (if v10 = 45 then kJ_X8_readValue_23 v1 u a0 x1 1 else kJ_X8_readValue_22 v1 u a0 x1))
def kB_X8_writeTo_2 (rec2 : (Int → fx_U → fx_U)) (x2 : Int) (a0 : Nat) (a1 : Nat) (p2_3 : Int) (w2 : fx_U) : fx_U :=
  (if p2_3 < x2 then (if p2_3 < 64 then (if p2_3 < 64 then fx_lr (w2 a0 0) fun b22 => fx_lt (w2 b22 p2_3.toNat) fun v26 => fx_ls (fx_pt w2 a1 p2_3.toNat v26) fun u27 => fx_lt (p2_3 + 1) fun v28 => rec2 v28 u27 else (fun _ _ => 0)) else w2) else w2)
def kL_X8_writeTo_2 (x2 : Int) (a0 : Nat) (a1 : Nat) : Nat → Int → fx_U → fx_U
  | 0, _, _ => (fun _ _ => 0)
  | n + 1, p2_3, w2 => kB_X8_writeTo_2 (kL_X8_writeTo_2 x2 a0 a1 n) x2 a0 a1 p2_3 w2
def f_X8_writeTo (u : fx_U) (a0 : Nat) (a1 : Nat) (x2 : Int) : fx_U :=
  kL_X8_writeTo_2 x2 a0 a1 (Int.toNat (64 - 0) + 1) 0 u
def kJ_X8_read_126 (a0 : Nat) (w126 : fx_U) : Int × fx_U :=
  fx_lt (w126 a0 5) fun v127 => (if v127 = 0 then fx_lt (f_X8_sumOfAmounts w126 a0) fun v141 => (v141, w126) else (v127, w126))
def kJ_X8_read_101 (a0 : Nat) (x3 : Int) (w101 : fx_U) : Int × fx_U :=
  fx_lt (w101 a0 5) fun v102 => (if v102 = 0 then fx_lt (w101 a0 4) fun v109 => (if v109 < x3 then fx_lt (w101 a0 3) fun v119 => fx_lc (f_X8_fail w101 a0 1 v119) fun v122 u122 => kJ_X8_read_126 a0 u122 else kJ_X8_read_126 a0 w101) else kJ_X8_read_126 a0 w101)
def kB_X8_read_33 (rec33 : (Int → fx_U → Int × fx_U)) (x3 : Int) (a0 : Nat) (x4 : Int) (p33_5 : Int) (w33 : fx_U) : Int × fx_U :=
  (if x3 < p33_5 then kJ_X8_read_101 a0 x3 w33 else fx_lc (f_X8_readValue w33 a0 x3 x4) fun v43 u43 => (if v43 = 0 then kJ_X8_read_101 a0 x3 u43 else fx_lt (u43 a0 3) fun v50 => fx_lt (u43 a0 2) fun v54 => (if v50 < v54 then fx_lt (f_X8_peek u43 a0) fun v64 => (if v64 = 44 then fx_lt (v50 + 1) fun v91 => fx_ls (fx_pt u43 a0 3 v91) fun u92 => fx_lt (p33_5 + 1) fun v95 => rec33 v95 u92 else fx_lc (f_X8_fail u43 a0 1 v50) fun v78 u78 => kJ_X8_read_101 a0 x3 u78) else kJ_X8_read_101 a0 x3 u43)))
def kL_X8_read_33 (x3 : Int) (a0 : Nat) (x4 : Int) : Nat → Int → fx_U → Int × fx_U
  | 0, _, _ => (0, fun _ _ => 0)
  | n + 1, p33_5, w33 => kB_X8_read_33 (kL_X8_read_33 x3 a0 x4 n) x3 a0 x4 p33_5 w33
def f_X8_read (u : fx_U) (a0 : Nat) (a1 : Nat) (x2 : Int) (x3 : Int) (x4 : Int) : Int × fx_U :=
  fx_ls (fx_pt u a0 1 (a1 : Nat)) fun u2 => fx_lt (f_J9_min_7cf53 u2 x2 260) fun v9 => fx_ls (fx_pt u2 a0 2 v9) fun u12 => fx_ls (fx_pt u12 a0 3 0) fun u17 => fx_ls (fx_pt u17 a0 4 0) fun u22 => fx_ls (fx_pt u22 a0 5 0) fun u27 => kL_X8_read_33 x3 a0 x4 (Int.toNat (65 - 0) + 1) 0 u27
def f_X4_isTimes (u : fx_U) (x0 : Int) : Int :=
  (if x0 = 42 then 1 else (if x0 = 47 then 1 else (if x0 = 37 then 1 else 0)))
def f_X4_isValueLetter (u : fx_U) (x0 : Int) : Int :=
  (if x0 = 97 then 1 else (if x0 = 98 then 0 else (if x0 = 99 then 1 else (if x0 = 100 then 0 else (if x0 = 101 then 0 else (if x0 = 102 then 0 else (if x0 = 103 then 0 else (if x0 = 104 then 1 else (if x0 = 105 then 1 else (if x0 = 106 then 0 else (if x0 = 107 then 1 else (if x0 = 108 then 0 else (if x0 = 109 then 0 else (if x0 = 110 then 1 else (if x0 = 111 then 0 else (if x0 = 112 then 0 else (if x0 = 113 then 0 else (if x0 = 114 then 1 else (if x0 = 115 then 0 else (if x0 = 116 then 1 else (if x0 = 117 then 0 else (if x0 = 118 then 0 else (if x0 = 119 then 1 else 0)))))))))))))))))))))))
def f_X4_peek (u : fx_U) (a0 : Nat) : Int :=
  fx_lr (u a0 0) fun at1 => fx_lt (u a0 2) fun v1 => (if v1 < 0 then (-1) else fx_lt (u a0 1) fun v12 => (if v1 < v12 then fx_lt (u at1 v1.toNat) fun v26 => v26 else (-1)))
def f_X4_fail (u : fx_U) (a0 : Nat) (x1 : Int) : Int × fx_U :=
  fx_lt (fx_b_mul (-1000) x1) fun v5 => fx_lt (u a0 2) fun v7 => fx_lt (fx_b_sub v5 v7) fun v10 => fx_ls (fx_pt u a0 3 v10) fun u11 => (0, u11)
def f_X4_mayOpen (u : fx_U) (a0 : Nat) (x1 : Int) : Int × fx_U :=
  (if x1 < 6 then fx_lt (u a0 2) fun v14 => fx_lt (fx_b_add v14 1) fun v18 => fx_ls (fx_pt u a0 2 v18) fun u19 => (1, u19) else fx_lc (f_X4_fail u a0 5) fun v8 u8 => (v8, u8))
def f_X4_expect (u : fx_U) (a0 : Nat) (x1 : Int) : Int × fx_U :=
  fx_lr (u a0 0) fun at1 => fx_lt (f_X4_peek u a0) fun v1 => (if v1 = x1 then fx_lt (u a0 2) fun v16 => fx_lt (fx_b_add v16 1) fun v20 => fx_ls (fx_pt u a0 2 v20) fun u21 => (1, u21) else fx_lc (f_X4_fail u a0 1) fun v10 u10 => (v10, u10))
def kJ_X4_readNumber_52 (w4 : fx_U) (a0 : Nat) (p4_1 : Int) : Int × fx_U :=
  fx_lt (f_X4_peek w4 a0) fun v53 => fx_lt (f_X11_isIn w4 v53 48 57) fun v60 => (if v60 = 0 then fx_lr (w4 a0 4) fun b73 => fx_lc (f_X3_add w4 b73 48 p4_1) fun v79 u79 => (1, u79) else fx_lc (f_X4_fail w4 a0 2) fun v68 u68 => (v68, u68))
def kB_X4_readNumber_4 (rec4 : (Int → Int → fx_U → Int × fx_U)) (a0 : Nat) (p4_1 : Int) (p4_2 : Int) (w4 : fx_U) : Int × fx_U :=
  (if p4_2 < 5 then fx_lt (f_X4_peek w4 a0) fun v10 => fx_lt (f_X11_isIn w4 v10 48 57) fun v17 => (if v17 = 0 then kJ_X4_readNumber_52 w4 a0 p4_1 else fx_lt (fx_b_mul p4_1 10) fun v26 => fx_lt (f_X4_peek w4 a0) fun v28 => fx_lt (fx_b_add v26 v28) fun v31 => fx_lt (fx_b_sub v31 48) fun v34 => fx_lt (w4 a0 2) fun v38 => fx_lt (fx_b_add v38 1) fun v42 => fx_ls (fx_pt w4 a0 2 v42) fun u43 => fx_lt (p4_2 + 1) fun v46 => rec4 v34 v46 u43) else kJ_X4_readNumber_52 w4 a0 p4_1)
def kL_X4_readNumber_4 (a0 : Nat) : Nat → Int → Int → fx_U → Int × fx_U
  | 0, _, _, _ => (0, fun _ _ => 0)
  | n + 1, p4_1, p4_2, w4 => kB_X4_readNumber_4 (kL_X4_readNumber_4 a0 n) a0 p4_1 p4_2 w4
def f_X4_readNumber (u : fx_U) (a0 : Nat) : Int × fx_U :=
  fx_lr (u a0 0) fun at1 => kL_X4_readNumber_4 a0 (Int.toNat (5 - 0) + 1) 0 0 u
def f_X4_readFactor_L6 (u : fx_U) (a0 : Nat) (x1 : Int) : Int × fx_U :=
  fx_lr (u a0 0) fun at1 => fx_lt (f_X4_peek u a0) fun v1 => (if v1 = 91 then fx_lc (f_X4_mayOpen u a0 x1) fun v13 u13 => (if v13 = 0 then (0, u13) else (0, fun _ _ => 0)) else fx_lt (f_X11_isIn u v1 48 57) fun v49 => (if v49 = 0 then fx_lt (f_X4_isValueLetter u v1) fun v61 => (if v61 = 0 then fx_lc (f_X4_fail u a0 1) fun v69 u69 => (v69, u69) else fx_lt (u a0 2) fun v75 => fx_lt (fx_b_add v75 1) fun v79 => fx_ls (fx_pt u a0 2 v79) fun u80 => fx_lr (u80 a0 4) fun b84 => fx_lc (f_X3_add u80 b84 105 v1) fun v90 u90 => (1, u90)) else fx_lc (f_X4_readNumber u a0) fun v56 u56 => (v56, u56)))
def kB_X4_readTerm_L6_8 (rec8 : (Int → Int → fx_U → Int × fx_U)) (a0 : Nat) (x1 : Int) (p8_2 : Int) (p8_3 : Int) (w8 : fx_U) : Int × fx_U :=
  (if p8_3 < 240 then (if p8_2 = 0 then (p8_2, w8) else fx_lt (f_X4_peek w8 a0) fun v20 => fx_lt (f_X4_isTimes w8 v20) fun v23 => (if v23 = 0 then (p8_2, w8) else fx_lt (f_X4_peek w8 a0) fun v30 => fx_lt (w8 a0 2) fun v37 => fx_lt (fx_b_add v37 1) fun v41 => fx_ls (fx_pt w8 a0 2 v41) fun u42 => fx_lc (f_X4_readFactor_L6 u42 a0 x1) fun v47 u47 => fx_lr (u47 a0 4) fun b52 => fx_lc (f_X3_add u47 b52 v30 0) fun v58 u58 => fx_lt (p8_3 + 1) fun v62 => rec8 v47 v62 u58)) else (p8_2, w8))
def kL_X4_readTerm_L6_8 (a0 : Nat) (x1 : Int) : Nat → Int → Int → fx_U → Int × fx_U
  | 0, _, _, _ => (0, fun _ _ => 0)
  | n + 1, p8_2, p8_3, w8 => kB_X4_readTerm_L6_8 (kL_X4_readTerm_L6_8 a0 x1 n) a0 x1 p8_2 p8_3 w8
def f_X4_readTerm_L6 (u : fx_U) (a0 : Nat) (x1 : Int) : Int × fx_U :=
  fx_lr (u a0 0) fun at1 => fx_lc (f_X4_readFactor_L6 u a0 x1) fun v2 u2 => kL_X4_readTerm_L6_8 a0 x1 (Int.toNat (240 - 0) + 1) v2 0 u2
def kJ_X4_readSum_L6_37 (w8 : fx_U) (a0 : Nat) (x1 : Int) (p8_3 : Int) (rec8 : (Int → Int → fx_U → Int × fx_U)) : Int × fx_U :=
  fx_lt (f_X4_peek w8 a0) fun v38 => fx_lt (w8 a0 2) fun v45 => fx_lt (fx_b_add v45 1) fun v49 => fx_ls (fx_pt w8 a0 2 v49) fun u50 => fx_lc (f_X4_readTerm_L6 u50 a0 x1) fun v55 u55 => fx_lr (u55 a0 4) fun b60 => fx_lc (f_X3_add u55 b60 v38 0) fun v66 u66 => fx_lt (p8_3 + 1) fun v70 => rec8 v55 v70 u66
def kB_X4_readSum_L6_8 (rec8 : (Int → Int → fx_U → Int × fx_U)) (a0 : Nat) (x1 : Int) (p8_2 : Int) (p8_3 : Int) (w8 : fx_U) : Int × fx_U :=
  (if p8_3 < 240 then (if p8_2 = 0 then (p8_2, w8) else fx_lt (f_X4_peek w8 a0) fun v20 => (if v20 = 43 then kJ_X4_readSum_L6_37 w8 a0 x1 p8_3 rec8 else fx_lt (f_X4_peek w8 a0) fun v29 => (if v29 = 45 then kJ_X4_readSum_L6_37 w8 a0 x1 p8_3 rec8 else (p8_2, w8)))) else (p8_2, w8))
def kL_X4_readSum_L6_8 (a0 : Nat) (x1 : Int) : Nat → Int → Int → fx_U → Int × fx_U
  | 0, _, _, _ => (0, fun _ _ => 0)
  | n + 1, p8_2, p8_3, w8 => kB_X4_readSum_L6_8 (kL_X4_readSum_L6_8 a0 x1 n) a0 x1 p8_2 p8_3 w8
def f_X4_readSum_L6 (u : fx_U) (a0 : Nat) (x1 : Int) : Int × fx_U :=
  fx_lr (u a0 0) fun at1 => fx_lc (f_X4_readTerm_L6 u a0 x1) fun v2 u2 => kL_X4_readSum_L6_8 a0 x1 (Int.toNat (240 - 0) + 1) v2 0 u2
def f_X4_readFactor_L5 (u : fx_U) (a0 : Nat) (x1 : Int) : Int × fx_U :=
  fx_lr (u a0 0) fun at1 => fx_lt (f_X4_peek u a0) fun v1 => (if v1 = 91 then fx_lc (f_X4_mayOpen u a0 x1) fun v13 u13 => (if v13 = 0 then (0, u13) else fx_lt (x1 + 1) fun v22 => fx_lc (f_X4_readSum_L6 u13 a0 v22) fun v23 u23 => (if v23 = 0 then (0, u23) else fx_lc (f_X4_expect u23 a0 93) fun v32 u32 => (if v32 = 0 then (0, u32) else (1, u32)))) else fx_lt (f_X11_isIn u v1 48 57) fun v49 => (if v49 = 0 then fx_lt (f_X4_isValueLetter u v1) fun v61 => (if v61 = 0 then fx_lc (f_X4_fail u a0 1) fun v69 u69 => (v69, u69) else fx_lt (u a0 2) fun v75 => fx_lt (fx_b_add v75 1) fun v79 => fx_ls (fx_pt u a0 2 v79) fun u80 => fx_lr (u80 a0 4) fun b84 => fx_lc (f_X3_add u80 b84 105 v1) fun v90 u90 => (1, u90)) else fx_lc (f_X4_readNumber u a0) fun v56 u56 => (v56, u56)))
def kB_X4_readTerm_L5_8 (rec8 : (Int → Int → fx_U → Int × fx_U)) (a0 : Nat) (x1 : Int) (p8_2 : Int) (p8_3 : Int) (w8 : fx_U) : Int × fx_U :=
  (if p8_3 < 240 then (if p8_2 = 0 then (p8_2, w8) else fx_lt (f_X4_peek w8 a0) fun v20 => fx_lt (f_X4_isTimes w8 v20) fun v23 => (if v23 = 0 then (p8_2, w8) else fx_lt (f_X4_peek w8 a0) fun v30 => fx_lt (w8 a0 2) fun v37 => fx_lt (fx_b_add v37 1) fun v41 => fx_ls (fx_pt w8 a0 2 v41) fun u42 => fx_lc (f_X4_readFactor_L5 u42 a0 x1) fun v47 u47 => fx_lr (u47 a0 4) fun b52 => fx_lc (f_X3_add u47 b52 v30 0) fun v58 u58 => fx_lt (p8_3 + 1) fun v62 => rec8 v47 v62 u58)) else (p8_2, w8))
def kL_X4_readTerm_L5_8 (a0 : Nat) (x1 : Int) : Nat → Int → Int → fx_U → Int × fx_U
  | 0, _, _, _ => (0, fun _ _ => 0)
  | n + 1, p8_2, p8_3, w8 => kB_X4_readTerm_L5_8 (kL_X4_readTerm_L5_8 a0 x1 n) a0 x1 p8_2 p8_3 w8
def f_X4_readTerm_L5 (u : fx_U) (a0 : Nat) (x1 : Int) : Int × fx_U :=
  fx_lr (u a0 0) fun at1 => fx_lc (f_X4_readFactor_L5 u a0 x1) fun v2 u2 => kL_X4_readTerm_L5_8 a0 x1 (Int.toNat (240 - 0) + 1) v2 0 u2
def kJ_X4_readSum_L5_37 (w8 : fx_U) (a0 : Nat) (x1 : Int) (p8_3 : Int) (rec8 : (Int → Int → fx_U → Int × fx_U)) : Int × fx_U :=
  fx_lt (f_X4_peek w8 a0) fun v38 => fx_lt (w8 a0 2) fun v45 => fx_lt (fx_b_add v45 1) fun v49 => fx_ls (fx_pt w8 a0 2 v49) fun u50 => fx_lc (f_X4_readTerm_L5 u50 a0 x1) fun v55 u55 => fx_lr (u55 a0 4) fun b60 => fx_lc (f_X3_add u55 b60 v38 0) fun v66 u66 => fx_lt (p8_3 + 1) fun v70 => rec8 v55 v70 u66
def kB_X4_readSum_L5_8 (rec8 : (Int → Int → fx_U → Int × fx_U)) (a0 : Nat) (x1 : Int) (p8_2 : Int) (p8_3 : Int) (w8 : fx_U) : Int × fx_U :=
  (if p8_3 < 240 then (if p8_2 = 0 then (p8_2, w8) else fx_lt (f_X4_peek w8 a0) fun v20 => (if v20 = 43 then kJ_X4_readSum_L5_37 w8 a0 x1 p8_3 rec8 else fx_lt (f_X4_peek w8 a0) fun v29 => (if v29 = 45 then kJ_X4_readSum_L5_37 w8 a0 x1 p8_3 rec8 else (p8_2, w8)))) else (p8_2, w8))
def kL_X4_readSum_L5_8 (a0 : Nat) (x1 : Int) : Nat → Int → Int → fx_U → Int × fx_U
  | 0, _, _, _ => (0, fun _ _ => 0)
  | n + 1, p8_2, p8_3, w8 => kB_X4_readSum_L5_8 (kL_X4_readSum_L5_8 a0 x1 n) a0 x1 p8_2 p8_3 w8
def f_X4_readSum_L5 (u : fx_U) (a0 : Nat) (x1 : Int) : Int × fx_U :=
  fx_lr (u a0 0) fun at1 => fx_lc (f_X4_readTerm_L5 u a0 x1) fun v2 u2 => kL_X4_readSum_L5_8 a0 x1 (Int.toNat (240 - 0) + 1) v2 0 u2
def f_X4_readFactor_L4 (u : fx_U) (a0 : Nat) (x1 : Int) : Int × fx_U :=
  fx_lr (u a0 0) fun at1 => fx_lt (f_X4_peek u a0) fun v1 => (if v1 = 91 then fx_lc (f_X4_mayOpen u a0 x1) fun v13 u13 => (if v13 = 0 then (0, u13) else fx_lt (x1 + 1) fun v22 => fx_lc (f_X4_readSum_L5 u13 a0 v22) fun v23 u23 => (if v23 = 0 then (0, u23) else fx_lc (f_X4_expect u23 a0 93) fun v32 u32 => (if v32 = 0 then (0, u32) else (1, u32)))) else fx_lt (f_X11_isIn u v1 48 57) fun v49 => (if v49 = 0 then fx_lt (f_X4_isValueLetter u v1) fun v61 => (if v61 = 0 then fx_lc (f_X4_fail u a0 1) fun v69 u69 => (v69, u69) else fx_lt (u a0 2) fun v75 => fx_lt (fx_b_add v75 1) fun v79 => fx_ls (fx_pt u a0 2 v79) fun u80 => fx_lr (u80 a0 4) fun b84 => fx_lc (f_X3_add u80 b84 105 v1) fun v90 u90 => (1, u90)) else fx_lc (f_X4_readNumber u a0) fun v56 u56 => (v56, u56)))
def kB_X4_readTerm_L4_8 (rec8 : (Int → Int → fx_U → Int × fx_U)) (a0 : Nat) (x1 : Int) (p8_2 : Int) (p8_3 : Int) (w8 : fx_U) : Int × fx_U :=
  (if p8_3 < 240 then (if p8_2 = 0 then (p8_2, w8) else fx_lt (f_X4_peek w8 a0) fun v20 => fx_lt (f_X4_isTimes w8 v20) fun v23 => (if v23 = 0 then (p8_2, w8) else fx_lt (f_X4_peek w8 a0) fun v30 => fx_lt (w8 a0 2) fun v37 => fx_lt (fx_b_add v37 1) fun v41 => fx_ls (fx_pt w8 a0 2 v41) fun u42 => fx_lc (f_X4_readFactor_L4 u42 a0 x1) fun v47 u47 => fx_lr (u47 a0 4) fun b52 => fx_lc (f_X3_add u47 b52 v30 0) fun v58 u58 => fx_lt (p8_3 + 1) fun v62 => rec8 v47 v62 u58)) else (p8_2, w8))
def kL_X4_readTerm_L4_8 (a0 : Nat) (x1 : Int) : Nat → Int → Int → fx_U → Int × fx_U
  | 0, _, _, _ => (0, fun _ _ => 0)
  | n + 1, p8_2, p8_3, w8 => kB_X4_readTerm_L4_8 (kL_X4_readTerm_L4_8 a0 x1 n) a0 x1 p8_2 p8_3 w8
def f_X4_readTerm_L4 (u : fx_U) (a0 : Nat) (x1 : Int) : Int × fx_U :=
  fx_lr (u a0 0) fun at1 => fx_lc (f_X4_readFactor_L4 u a0 x1) fun v2 u2 => kL_X4_readTerm_L4_8 a0 x1 (Int.toNat (240 - 0) + 1) v2 0 u2
def kJ_X4_readSum_L4_37 (w8 : fx_U) (a0 : Nat) (x1 : Int) (p8_3 : Int) (rec8 : (Int → Int → fx_U → Int × fx_U)) : Int × fx_U :=
  fx_lt (f_X4_peek w8 a0) fun v38 => fx_lt (w8 a0 2) fun v45 => fx_lt (fx_b_add v45 1) fun v49 => fx_ls (fx_pt w8 a0 2 v49) fun u50 => fx_lc (f_X4_readTerm_L4 u50 a0 x1) fun v55 u55 => fx_lr (u55 a0 4) fun b60 => fx_lc (f_X3_add u55 b60 v38 0) fun v66 u66 => fx_lt (p8_3 + 1) fun v70 => rec8 v55 v70 u66
def kB_X4_readSum_L4_8 (rec8 : (Int → Int → fx_U → Int × fx_U)) (a0 : Nat) (x1 : Int) (p8_2 : Int) (p8_3 : Int) (w8 : fx_U) : Int × fx_U :=
  (if p8_3 < 240 then (if p8_2 = 0 then (p8_2, w8) else fx_lt (f_X4_peek w8 a0) fun v20 => (if v20 = 43 then kJ_X4_readSum_L4_37 w8 a0 x1 p8_3 rec8 else fx_lt (f_X4_peek w8 a0) fun v29 => (if v29 = 45 then kJ_X4_readSum_L4_37 w8 a0 x1 p8_3 rec8 else (p8_2, w8)))) else (p8_2, w8))
def kL_X4_readSum_L4_8 (a0 : Nat) (x1 : Int) : Nat → Int → Int → fx_U → Int × fx_U
  | 0, _, _, _ => (0, fun _ _ => 0)
  | n + 1, p8_2, p8_3, w8 => kB_X4_readSum_L4_8 (kL_X4_readSum_L4_8 a0 x1 n) a0 x1 p8_2 p8_3 w8
def f_X4_readSum_L4 (u : fx_U) (a0 : Nat) (x1 : Int) : Int × fx_U :=
  fx_lr (u a0 0) fun at1 => fx_lc (f_X4_readTerm_L4 u a0 x1) fun v2 u2 => kL_X4_readSum_L4_8 a0 x1 (Int.toNat (240 - 0) + 1) v2 0 u2
def f_X4_readFactor_L3 (u : fx_U) (a0 : Nat) (x1 : Int) : Int × fx_U :=
  fx_lr (u a0 0) fun at1 => fx_lt (f_X4_peek u a0) fun v1 => (if v1 = 91 then fx_lc (f_X4_mayOpen u a0 x1) fun v13 u13 => (if v13 = 0 then (0, u13) else fx_lt (x1 + 1) fun v22 => fx_lc (f_X4_readSum_L4 u13 a0 v22) fun v23 u23 => (if v23 = 0 then (0, u23) else fx_lc (f_X4_expect u23 a0 93) fun v32 u32 => (if v32 = 0 then (0, u32) else (1, u32)))) else fx_lt (f_X11_isIn u v1 48 57) fun v49 => (if v49 = 0 then fx_lt (f_X4_isValueLetter u v1) fun v61 => (if v61 = 0 then fx_lc (f_X4_fail u a0 1) fun v69 u69 => (v69, u69) else fx_lt (u a0 2) fun v75 => fx_lt (fx_b_add v75 1) fun v79 => fx_ls (fx_pt u a0 2 v79) fun u80 => fx_lr (u80 a0 4) fun b84 => fx_lc (f_X3_add u80 b84 105 v1) fun v90 u90 => (1, u90)) else fx_lc (f_X4_readNumber u a0) fun v56 u56 => (v56, u56)))
def kB_X4_readTerm_L3_8 (rec8 : (Int → Int → fx_U → Int × fx_U)) (a0 : Nat) (x1 : Int) (p8_2 : Int) (p8_3 : Int) (w8 : fx_U) : Int × fx_U :=
  (if p8_3 < 240 then (if p8_2 = 0 then (p8_2, w8) else fx_lt (f_X4_peek w8 a0) fun v20 => fx_lt (f_X4_isTimes w8 v20) fun v23 => (if v23 = 0 then (p8_2, w8) else fx_lt (f_X4_peek w8 a0) fun v30 => fx_lt (w8 a0 2) fun v37 => fx_lt (fx_b_add v37 1) fun v41 => fx_ls (fx_pt w8 a0 2 v41) fun u42 => fx_lc (f_X4_readFactor_L3 u42 a0 x1) fun v47 u47 => fx_lr (u47 a0 4) fun b52 => fx_lc (f_X3_add u47 b52 v30 0) fun v58 u58 => fx_lt (p8_3 + 1) fun v62 => rec8 v47 v62 u58)) else (p8_2, w8))
def kL_X4_readTerm_L3_8 (a0 : Nat) (x1 : Int) : Nat → Int → Int → fx_U → Int × fx_U
  | 0, _, _, _ => (0, fun _ _ => 0)
  | n + 1, p8_2, p8_3, w8 => kB_X4_readTerm_L3_8 (kL_X4_readTerm_L3_8 a0 x1 n) a0 x1 p8_2 p8_3 w8
def f_X4_readTerm_L3 (u : fx_U) (a0 : Nat) (x1 : Int) : Int × fx_U :=
  fx_lr (u a0 0) fun at1 => fx_lc (f_X4_readFactor_L3 u a0 x1) fun v2 u2 => kL_X4_readTerm_L3_8 a0 x1 (Int.toNat (240 - 0) + 1) v2 0 u2
def kJ_X4_readSum_L3_37 (w8 : fx_U) (a0 : Nat) (x1 : Int) (p8_3 : Int) (rec8 : (Int → Int → fx_U → Int × fx_U)) : Int × fx_U :=
  fx_lt (f_X4_peek w8 a0) fun v38 => fx_lt (w8 a0 2) fun v45 => fx_lt (fx_b_add v45 1) fun v49 => fx_ls (fx_pt w8 a0 2 v49) fun u50 => fx_lc (f_X4_readTerm_L3 u50 a0 x1) fun v55 u55 => fx_lr (u55 a0 4) fun b60 => fx_lc (f_X3_add u55 b60 v38 0) fun v66 u66 => fx_lt (p8_3 + 1) fun v70 => rec8 v55 v70 u66
def kB_X4_readSum_L3_8 (rec8 : (Int → Int → fx_U → Int × fx_U)) (a0 : Nat) (x1 : Int) (p8_2 : Int) (p8_3 : Int) (w8 : fx_U) : Int × fx_U :=
  (if p8_3 < 240 then (if p8_2 = 0 then (p8_2, w8) else fx_lt (f_X4_peek w8 a0) fun v20 => (if v20 = 43 then kJ_X4_readSum_L3_37 w8 a0 x1 p8_3 rec8 else fx_lt (f_X4_peek w8 a0) fun v29 => (if v29 = 45 then kJ_X4_readSum_L3_37 w8 a0 x1 p8_3 rec8 else (p8_2, w8)))) else (p8_2, w8))
def kL_X4_readSum_L3_8 (a0 : Nat) (x1 : Int) : Nat → Int → Int → fx_U → Int × fx_U
  | 0, _, _, _ => (0, fun _ _ => 0)
  | n + 1, p8_2, p8_3, w8 => kB_X4_readSum_L3_8 (kL_X4_readSum_L3_8 a0 x1 n) a0 x1 p8_2 p8_3 w8
def f_X4_readSum_L3 (u : fx_U) (a0 : Nat) (x1 : Int) : Int × fx_U :=
  fx_lr (u a0 0) fun at1 => fx_lc (f_X4_readTerm_L3 u a0 x1) fun v2 u2 => kL_X4_readSum_L3_8 a0 x1 (Int.toNat (240 - 0) + 1) v2 0 u2
def f_X4_readFactor_L2 (u : fx_U) (a0 : Nat) (x1 : Int) : Int × fx_U :=
  fx_lr (u a0 0) fun at1 => fx_lt (f_X4_peek u a0) fun v1 => (if v1 = 91 then fx_lc (f_X4_mayOpen u a0 x1) fun v13 u13 => (if v13 = 0 then (0, u13) else fx_lt (x1 + 1) fun v22 => fx_lc (f_X4_readSum_L3 u13 a0 v22) fun v23 u23 => (if v23 = 0 then (0, u23) else fx_lc (f_X4_expect u23 a0 93) fun v32 u32 => (if v32 = 0 then (0, u32) else (1, u32)))) else fx_lt (f_X11_isIn u v1 48 57) fun v49 => (if v49 = 0 then fx_lt (f_X4_isValueLetter u v1) fun v61 => (if v61 = 0 then fx_lc (f_X4_fail u a0 1) fun v69 u69 => (v69, u69) else fx_lt (u a0 2) fun v75 => fx_lt (fx_b_add v75 1) fun v79 => fx_ls (fx_pt u a0 2 v79) fun u80 => fx_lr (u80 a0 4) fun b84 => fx_lc (f_X3_add u80 b84 105 v1) fun v90 u90 => (1, u90)) else fx_lc (f_X4_readNumber u a0) fun v56 u56 => (v56, u56)))
def kB_X4_readTerm_L2_8 (rec8 : (Int → Int → fx_U → Int × fx_U)) (a0 : Nat) (x1 : Int) (p8_2 : Int) (p8_3 : Int) (w8 : fx_U) : Int × fx_U :=
  (if p8_3 < 240 then (if p8_2 = 0 then (p8_2, w8) else fx_lt (f_X4_peek w8 a0) fun v20 => fx_lt (f_X4_isTimes w8 v20) fun v23 => (if v23 = 0 then (p8_2, w8) else fx_lt (f_X4_peek w8 a0) fun v30 => fx_lt (w8 a0 2) fun v37 => fx_lt (fx_b_add v37 1) fun v41 => fx_ls (fx_pt w8 a0 2 v41) fun u42 => fx_lc (f_X4_readFactor_L2 u42 a0 x1) fun v47 u47 => fx_lr (u47 a0 4) fun b52 => fx_lc (f_X3_add u47 b52 v30 0) fun v58 u58 => fx_lt (p8_3 + 1) fun v62 => rec8 v47 v62 u58)) else (p8_2, w8))
def kL_X4_readTerm_L2_8 (a0 : Nat) (x1 : Int) : Nat → Int → Int → fx_U → Int × fx_U
  | 0, _, _, _ => (0, fun _ _ => 0)
  | n + 1, p8_2, p8_3, w8 => kB_X4_readTerm_L2_8 (kL_X4_readTerm_L2_8 a0 x1 n) a0 x1 p8_2 p8_3 w8
def f_X4_readTerm_L2 (u : fx_U) (a0 : Nat) (x1 : Int) : Int × fx_U :=
  fx_lr (u a0 0) fun at1 => fx_lc (f_X4_readFactor_L2 u a0 x1) fun v2 u2 => kL_X4_readTerm_L2_8 a0 x1 (Int.toNat (240 - 0) + 1) v2 0 u2
def kJ_X4_readSum_L2_37 (w8 : fx_U) (a0 : Nat) (x1 : Int) (p8_3 : Int) (rec8 : (Int → Int → fx_U → Int × fx_U)) : Int × fx_U :=
  fx_lt (f_X4_peek w8 a0) fun v38 => fx_lt (w8 a0 2) fun v45 => fx_lt (fx_b_add v45 1) fun v49 => fx_ls (fx_pt w8 a0 2 v49) fun u50 => fx_lc (f_X4_readTerm_L2 u50 a0 x1) fun v55 u55 => fx_lr (u55 a0 4) fun b60 => fx_lc (f_X3_add u55 b60 v38 0) fun v66 u66 => fx_lt (p8_3 + 1) fun v70 => rec8 v55 v70 u66
def kB_X4_readSum_L2_8 (rec8 : (Int → Int → fx_U → Int × fx_U)) (a0 : Nat) (x1 : Int) (p8_2 : Int) (p8_3 : Int) (w8 : fx_U) : Int × fx_U :=
  (if p8_3 < 240 then (if p8_2 = 0 then (p8_2, w8) else fx_lt (f_X4_peek w8 a0) fun v20 => (if v20 = 43 then kJ_X4_readSum_L2_37 w8 a0 x1 p8_3 rec8 else fx_lt (f_X4_peek w8 a0) fun v29 => (if v29 = 45 then kJ_X4_readSum_L2_37 w8 a0 x1 p8_3 rec8 else (p8_2, w8)))) else (p8_2, w8))
def kL_X4_readSum_L2_8 (a0 : Nat) (x1 : Int) : Nat → Int → Int → fx_U → Int × fx_U
  | 0, _, _, _ => (0, fun _ _ => 0)
  | n + 1, p8_2, p8_3, w8 => kB_X4_readSum_L2_8 (kL_X4_readSum_L2_8 a0 x1 n) a0 x1 p8_2 p8_3 w8
def f_X4_readSum_L2 (u : fx_U) (a0 : Nat) (x1 : Int) : Int × fx_U :=
  fx_lr (u a0 0) fun at1 => fx_lc (f_X4_readTerm_L2 u a0 x1) fun v2 u2 => kL_X4_readSum_L2_8 a0 x1 (Int.toNat (240 - 0) + 1) v2 0 u2
def f_X4_readFactor_L1 (u : fx_U) (a0 : Nat) (x1 : Int) : Int × fx_U :=
  fx_lr (u a0 0) fun at1 => fx_lt (f_X4_peek u a0) fun v1 => (if v1 = 91 then fx_lc (f_X4_mayOpen u a0 x1) fun v13 u13 => (if v13 = 0 then (0, u13) else fx_lt (x1 + 1) fun v22 => fx_lc (f_X4_readSum_L2 u13 a0 v22) fun v23 u23 => (if v23 = 0 then (0, u23) else fx_lc (f_X4_expect u23 a0 93) fun v32 u32 => (if v32 = 0 then (0, u32) else (1, u32)))) else fx_lt (f_X11_isIn u v1 48 57) fun v49 => (if v49 = 0 then fx_lt (f_X4_isValueLetter u v1) fun v61 => (if v61 = 0 then fx_lc (f_X4_fail u a0 1) fun v69 u69 => (v69, u69) else fx_lt (u a0 2) fun v75 => fx_lt (fx_b_add v75 1) fun v79 => fx_ls (fx_pt u a0 2 v79) fun u80 => fx_lr (u80 a0 4) fun b84 => fx_lc (f_X3_add u80 b84 105 v1) fun v90 u90 => (1, u90)) else fx_lc (f_X4_readNumber u a0) fun v56 u56 => (v56, u56)))
def kB_X4_readTerm_L1_8 (rec8 : (Int → Int → fx_U → Int × fx_U)) (a0 : Nat) (x1 : Int) (p8_2 : Int) (p8_3 : Int) (w8 : fx_U) : Int × fx_U :=
  (if p8_3 < 240 then (if p8_2 = 0 then (p8_2, w8) else fx_lt (f_X4_peek w8 a0) fun v20 => fx_lt (f_X4_isTimes w8 v20) fun v23 => (if v23 = 0 then (p8_2, w8) else fx_lt (f_X4_peek w8 a0) fun v30 => fx_lt (w8 a0 2) fun v37 => fx_lt (fx_b_add v37 1) fun v41 => fx_ls (fx_pt w8 a0 2 v41) fun u42 => fx_lc (f_X4_readFactor_L1 u42 a0 x1) fun v47 u47 => fx_lr (u47 a0 4) fun b52 => fx_lc (f_X3_add u47 b52 v30 0) fun v58 u58 => fx_lt (p8_3 + 1) fun v62 => rec8 v47 v62 u58)) else (p8_2, w8))
def kL_X4_readTerm_L1_8 (a0 : Nat) (x1 : Int) : Nat → Int → Int → fx_U → Int × fx_U
  | 0, _, _, _ => (0, fun _ _ => 0)
  | n + 1, p8_2, p8_3, w8 => kB_X4_readTerm_L1_8 (kL_X4_readTerm_L1_8 a0 x1 n) a0 x1 p8_2 p8_3 w8
def f_X4_readTerm_L1 (u : fx_U) (a0 : Nat) (x1 : Int) : Int × fx_U :=
  fx_lr (u a0 0) fun at1 => fx_lc (f_X4_readFactor_L1 u a0 x1) fun v2 u2 => kL_X4_readTerm_L1_8 a0 x1 (Int.toNat (240 - 0) + 1) v2 0 u2
def kJ_X4_readSum_L1_37 (w8 : fx_U) (a0 : Nat) (x1 : Int) (p8_3 : Int) (rec8 : (Int → Int → fx_U → Int × fx_U)) : Int × fx_U :=
  fx_lt (f_X4_peek w8 a0) fun v38 => fx_lt (w8 a0 2) fun v45 => fx_lt (fx_b_add v45 1) fun v49 => fx_ls (fx_pt w8 a0 2 v49) fun u50 => fx_lc (f_X4_readTerm_L1 u50 a0 x1) fun v55 u55 => fx_lr (u55 a0 4) fun b60 => fx_lc (f_X3_add u55 b60 v38 0) fun v66 u66 => fx_lt (p8_3 + 1) fun v70 => rec8 v55 v70 u66
def kB_X4_readSum_L1_8 (rec8 : (Int → Int → fx_U → Int × fx_U)) (a0 : Nat) (x1 : Int) (p8_2 : Int) (p8_3 : Int) (w8 : fx_U) : Int × fx_U :=
  (if p8_3 < 240 then (if p8_2 = 0 then (p8_2, w8) else fx_lt (f_X4_peek w8 a0) fun v20 => (if v20 = 43 then kJ_X4_readSum_L1_37 w8 a0 x1 p8_3 rec8 else fx_lt (f_X4_peek w8 a0) fun v29 => (if v29 = 45 then kJ_X4_readSum_L1_37 w8 a0 x1 p8_3 rec8 else (p8_2, w8)))) else (p8_2, w8))
def kL_X4_readSum_L1_8 (a0 : Nat) (x1 : Int) : Nat → Int → Int → fx_U → Int × fx_U
  | 0, _, _, _ => (0, fun _ _ => 0)
  | n + 1, p8_2, p8_3, w8 => kB_X4_readSum_L1_8 (kL_X4_readSum_L1_8 a0 x1 n) a0 x1 p8_2 p8_3 w8
def f_X4_readSum_L1 (u : fx_U) (a0 : Nat) (x1 : Int) : Int × fx_U :=
  fx_lr (u a0 0) fun at1 => fx_lc (f_X4_readTerm_L1 u a0 x1) fun v2 u2 => kL_X4_readSum_L1_8 a0 x1 (Int.toNat (240 - 0) + 1) v2 0 u2
def f_X4_readFactor_L0 (u : fx_U) (a0 : Nat) (x1 : Int) : Int × fx_U :=
  fx_lr (u a0 0) fun at1 => fx_lt (f_X4_peek u a0) fun v1 => (if v1 = 91 then fx_lc (f_X4_mayOpen u a0 x1) fun v13 u13 => (if v13 = 0 then (0, u13) else fx_lt (x1 + 1) fun v22 => fx_lc (f_X4_readSum_L1 u13 a0 v22) fun v23 u23 => (if v23 = 0 then (0, u23) else fx_lc (f_X4_expect u23 a0 93) fun v32 u32 => (if v32 = 0 then (0, u32) else (1, u32)))) else fx_lt (f_X11_isIn u v1 48 57) fun v49 => (if v49 = 0 then fx_lt (f_X4_isValueLetter u v1) fun v61 => (if v61 = 0 then fx_lc (f_X4_fail u a0 1) fun v69 u69 => (v69, u69) else fx_lt (u a0 2) fun v75 => fx_lt (fx_b_add v75 1) fun v79 => fx_ls (fx_pt u a0 2 v79) fun u80 => fx_lr (u80 a0 4) fun b84 => fx_lc (f_X3_add u80 b84 105 v1) fun v90 u90 => (1, u90)) else fx_lc (f_X4_readNumber u a0) fun v56 u56 => (v56, u56)))
def kB_X4_readTerm_L0_8 (rec8 : (Int → Int → fx_U → Int × fx_U)) (a0 : Nat) (x1 : Int) (p8_2 : Int) (p8_3 : Int) (w8 : fx_U) : Int × fx_U :=
  (if p8_3 < 240 then (if p8_2 = 0 then (p8_2, w8) else fx_lt (f_X4_peek w8 a0) fun v20 => fx_lt (f_X4_isTimes w8 v20) fun v23 => (if v23 = 0 then (p8_2, w8) else fx_lt (f_X4_peek w8 a0) fun v30 => fx_lt (w8 a0 2) fun v37 => fx_lt (fx_b_add v37 1) fun v41 => fx_ls (fx_pt w8 a0 2 v41) fun u42 => fx_lc (f_X4_readFactor_L0 u42 a0 x1) fun v47 u47 => fx_lr (u47 a0 4) fun b52 => fx_lc (f_X3_add u47 b52 v30 0) fun v58 u58 => fx_lt (p8_3 + 1) fun v62 => rec8 v47 v62 u58)) else (p8_2, w8))
def kL_X4_readTerm_L0_8 (a0 : Nat) (x1 : Int) : Nat → Int → Int → fx_U → Int × fx_U
  | 0, _, _, _ => (0, fun _ _ => 0)
  | n + 1, p8_2, p8_3, w8 => kB_X4_readTerm_L0_8 (kL_X4_readTerm_L0_8 a0 x1 n) a0 x1 p8_2 p8_3 w8
def f_X4_readTerm_L0 (u : fx_U) (a0 : Nat) (x1 : Int) : Int × fx_U :=
  fx_lr (u a0 0) fun at1 => fx_lc (f_X4_readFactor_L0 u a0 x1) fun v2 u2 => kL_X4_readTerm_L0_8 a0 x1 (Int.toNat (240 - 0) + 1) v2 0 u2
def kJ_X4_readSum_L0_37 (w8 : fx_U) (a0 : Nat) (x1 : Int) (p8_3 : Int) (rec8 : (Int → Int → fx_U → Int × fx_U)) : Int × fx_U :=
  fx_lt (f_X4_peek w8 a0) fun v38 => fx_lt (w8 a0 2) fun v45 => fx_lt (fx_b_add v45 1) fun v49 => fx_ls (fx_pt w8 a0 2 v49) fun u50 => fx_lc (f_X4_readTerm_L0 u50 a0 x1) fun v55 u55 => fx_lr (u55 a0 4) fun b60 => fx_lc (f_X3_add u55 b60 v38 0) fun v66 u66 => fx_lt (p8_3 + 1) fun v70 => rec8 v55 v70 u66
def kB_X4_readSum_L0_8 (rec8 : (Int → Int → fx_U → Int × fx_U)) (a0 : Nat) (x1 : Int) (p8_2 : Int) (p8_3 : Int) (w8 : fx_U) : Int × fx_U :=
  (if p8_3 < 240 then (if p8_2 = 0 then (p8_2, w8) else fx_lt (f_X4_peek w8 a0) fun v20 => (if v20 = 43 then kJ_X4_readSum_L0_37 w8 a0 x1 p8_3 rec8 else fx_lt (f_X4_peek w8 a0) fun v29 => (if v29 = 45 then kJ_X4_readSum_L0_37 w8 a0 x1 p8_3 rec8 else (p8_2, w8)))) else (p8_2, w8))
def kL_X4_readSum_L0_8 (a0 : Nat) (x1 : Int) : Nat → Int → Int → fx_U → Int × fx_U
  | 0, _, _, _ => (0, fun _ _ => 0)
  | n + 1, p8_2, p8_3, w8 => kB_X4_readSum_L0_8 (kL_X4_readSum_L0_8 a0 x1 n) a0 x1 p8_2 p8_3 w8
def f_X4_readSum_L0 (u : fx_U) (a0 : Nat) (x1 : Int) : Int × fx_U :=
  fx_lr (u a0 0) fun at1 => fx_lc (f_X4_readTerm_L0 u a0 x1) fun v2 u2 => kL_X4_readSum_L0_8 a0 x1 (Int.toNat (240 - 0) + 1) v2 0 u2
def kJ_X4_readPiece_L6_123 (u86 : fx_U) (a0 : Nat) (x1 : Int) (v95 : Int) : Int × fx_U :=
  fx_lt (u86 a0 2) fun v125 => fx_lt (fx_b_add v125 1) fun v129 => fx_ls (fx_pt u86 a0 2 v129) fun u130 => fx_lc (f_X4_readSum_L6 u130 a0 x1) fun v135 u135 => (if v135 = 0 then (0, u135) else fx_lr (u135 a0 4) fun b144 => fx_lc (f_X3_add u135 b144 v95 0) fun v149 u149 => (1, u149))
def f_X4_readPiece_L6 (u : fx_U) (a0 : Nat) (x1 : Int) : Int × fx_U :=
  fx_lr (u a0 0) fun at1 => fx_lt (f_X4_peek u a0) fun v1 => (if v1 = 33 then fx_lc (f_X4_mayOpen u a0 x1) fun v11 u11 => (if v11 = 0 then (0, u11) else (0, fun _ _ => 0)) else fx_lt (f_X4_peek u a0) fun v43 => (if v43 = 40 then fx_lc (f_X4_mayOpen u a0 x1) fun v53 u53 => (if v53 = 0 then (0, u53) else (0, fun _ _ => 0)) else fx_lc (f_X4_readSum_L6 u a0 x1) fun v86 u86 => (if v86 = 0 then (0, u86) else fx_lt (f_X4_peek u86 a0) fun v95 => (if v95 = 60 then kJ_X4_readPiece_L6_123 u86 a0 x1 v95 else (if v95 = 62 then kJ_X4_readPiece_L6_123 u86 a0 x1 v95 else (if v95 = 61 then kJ_X4_readPiece_L6_123 u86 a0 x1 v95 else fx_lc (f_X4_fail u86 a0 1) fun v119 u119 => (v119, u119)))))))
def kB_X4_readPart_L6_8 (rec8 : (Int → Int → fx_U → Int × fx_U)) (a0 : Nat) (x1 : Int) (p8_2 : Int) (p8_3 : Int) (w8 : fx_U) : Int × fx_U :=
  (if p8_3 < 240 then (if p8_2 = 0 then (p8_2, w8) else fx_lt (f_X4_peek w8 a0) fun v20 => (if v20 = 38 then fx_lt (w8 a0 2) fun v30 => fx_lt (fx_b_add v30 1) fun v34 => fx_ls (fx_pt w8 a0 2 v34) fun u35 => fx_lr (u35 a0 4) fun b39 => fx_lc (f_X3_add u35 b39 38 0) fun v45 u45 => fx_lc (f_X4_readPiece_L6 u45 a0 x1) fun v52 u52 => fx_ls (f_X3_leadHere u52 b39 v45) fun u62 => fx_lt (p8_3 + 1) fun v65 => rec8 v52 v65 u62 else (p8_2, w8))) else (p8_2, w8))
def kL_X4_readPart_L6_8 (a0 : Nat) (x1 : Int) : Nat → Int → Int → fx_U → Int × fx_U
  | 0, _, _, _ => (0, fun _ _ => 0)
  | n + 1, p8_2, p8_3, w8 => kB_X4_readPart_L6_8 (kL_X4_readPart_L6_8 a0 x1 n) a0 x1 p8_2 p8_3 w8
def f_X4_readPart_L6 (u : fx_U) (a0 : Nat) (x1 : Int) : Int × fx_U :=
  fx_lr (u a0 0) fun at1 => fx_lc (f_X4_readPiece_L6 u a0 x1) fun v2 u2 => kL_X4_readPart_L6_8 a0 x1 (Int.toNat (240 - 0) + 1) v2 0 u2
def kB_X4_readParts_L6_8 (rec8 : (Int → Int → fx_U → Int × fx_U)) (a0 : Nat) (x1 : Int) (p8_2 : Int) (p8_3 : Int) (w8 : fx_U) : Int × fx_U :=
  (if p8_3 < 240 then (if p8_2 = 0 then (p8_2, w8) else fx_lt (f_X4_peek w8 a0) fun v20 => (if v20 = 124 then fx_lt (w8 a0 2) fun v30 => fx_lt (fx_b_add v30 1) fun v34 => fx_ls (fx_pt w8 a0 2 v34) fun u35 => fx_lr (u35 a0 4) fun b39 => fx_lc (f_X3_add u35 b39 124 0) fun v45 u45 => fx_lc (f_X4_readPart_L6 u45 a0 x1) fun v52 u52 => fx_ls (f_X3_leadHere u52 b39 v45) fun u62 => fx_lt (p8_3 + 1) fun v65 => rec8 v52 v65 u62 else (p8_2, w8))) else (p8_2, w8))
def kL_X4_readParts_L6_8 (a0 : Nat) (x1 : Int) : Nat → Int → Int → fx_U → Int × fx_U
  | 0, _, _, _ => (0, fun _ _ => 0)
  | n + 1, p8_2, p8_3, w8 => kB_X4_readParts_L6_8 (kL_X4_readParts_L6_8 a0 x1 n) a0 x1 p8_2 p8_3 w8
def f_X4_readParts_L6 (u : fx_U) (a0 : Nat) (x1 : Int) : Int × fx_U :=
  fx_lr (u a0 0) fun at1 => fx_lc (f_X4_readPart_L6 u a0 x1) fun v2 u2 => kL_X4_readParts_L6_8 a0 x1 (Int.toNat (240 - 0) + 1) v2 0 u2
def kJ_X4_readPiece_L5_123 (u86 : fx_U) (a0 : Nat) (x1 : Int) (v95 : Int) : Int × fx_U :=
  fx_lt (u86 a0 2) fun v125 => fx_lt (fx_b_add v125 1) fun v129 => fx_ls (fx_pt u86 a0 2 v129) fun u130 => fx_lc (f_X4_readSum_L5 u130 a0 x1) fun v135 u135 => (if v135 = 0 then (0, u135) else fx_lr (u135 a0 4) fun b144 => fx_lc (f_X3_add u135 b144 v95 0) fun v149 u149 => (1, u149))
def f_X4_readPiece_L5 (u : fx_U) (a0 : Nat) (x1 : Int) : Int × fx_U :=
  fx_lr (u a0 0) fun at1 => fx_lt (f_X4_peek u a0) fun v1 => (if v1 = 33 then fx_lc (f_X4_mayOpen u a0 x1) fun v11 u11 => (if v11 = 0 then (0, u11) else fx_lt (x1 + 1) fun v20 => fx_lc (f_X4_readPiece_L6 u11 a0 v20) fun v21 u21 => (if v21 = 0 then (0, u21) else fx_lr (u21 a0 4) fun b30 => fx_lc (f_X3_add u21 b30 33 0) fun v36 u36 => (1, u36))) else fx_lt (f_X4_peek u a0) fun v43 => (if v43 = 40 then fx_lc (f_X4_mayOpen u a0 x1) fun v53 u53 => (if v53 = 0 then (0, u53) else fx_lt (x1 + 1) fun v62 => fx_lc (f_X4_readParts_L6 u53 a0 v62) fun v63 u63 => (if v63 = 0 then (0, u63) else fx_lc (f_X4_expect u63 a0 41) fun v72 u72 => (if v72 = 0 then (0, u72) else (1, u72)))) else fx_lc (f_X4_readSum_L5 u a0 x1) fun v86 u86 => (if v86 = 0 then (0, u86) else fx_lt (f_X4_peek u86 a0) fun v95 => (if v95 = 60 then kJ_X4_readPiece_L5_123 u86 a0 x1 v95 else (if v95 = 62 then kJ_X4_readPiece_L5_123 u86 a0 x1 v95 else (if v95 = 61 then kJ_X4_readPiece_L5_123 u86 a0 x1 v95 else fx_lc (f_X4_fail u86 a0 1) fun v119 u119 => (v119, u119)))))))
def kB_X4_readPart_L5_8 (rec8 : (Int → Int → fx_U → Int × fx_U)) (a0 : Nat) (x1 : Int) (p8_2 : Int) (p8_3 : Int) (w8 : fx_U) : Int × fx_U :=
  (if p8_3 < 240 then (if p8_2 = 0 then (p8_2, w8) else fx_lt (f_X4_peek w8 a0) fun v20 => (if v20 = 38 then fx_lt (w8 a0 2) fun v30 => fx_lt (fx_b_add v30 1) fun v34 => fx_ls (fx_pt w8 a0 2 v34) fun u35 => fx_lr (u35 a0 4) fun b39 => fx_lc (f_X3_add u35 b39 38 0) fun v45 u45 => fx_lc (f_X4_readPiece_L5 u45 a0 x1) fun v52 u52 => fx_ls (f_X3_leadHere u52 b39 v45) fun u62 => fx_lt (p8_3 + 1) fun v65 => rec8 v52 v65 u62 else (p8_2, w8))) else (p8_2, w8))
def kL_X4_readPart_L5_8 (a0 : Nat) (x1 : Int) : Nat → Int → Int → fx_U → Int × fx_U
  | 0, _, _, _ => (0, fun _ _ => 0)
  | n + 1, p8_2, p8_3, w8 => kB_X4_readPart_L5_8 (kL_X4_readPart_L5_8 a0 x1 n) a0 x1 p8_2 p8_3 w8
def f_X4_readPart_L5 (u : fx_U) (a0 : Nat) (x1 : Int) : Int × fx_U :=
  fx_lr (u a0 0) fun at1 => fx_lc (f_X4_readPiece_L5 u a0 x1) fun v2 u2 => kL_X4_readPart_L5_8 a0 x1 (Int.toNat (240 - 0) + 1) v2 0 u2
def kB_X4_readParts_L5_8 (rec8 : (Int → Int → fx_U → Int × fx_U)) (a0 : Nat) (x1 : Int) (p8_2 : Int) (p8_3 : Int) (w8 : fx_U) : Int × fx_U :=
  (if p8_3 < 240 then (if p8_2 = 0 then (p8_2, w8) else fx_lt (f_X4_peek w8 a0) fun v20 => (if v20 = 124 then fx_lt (w8 a0 2) fun v30 => fx_lt (fx_b_add v30 1) fun v34 => fx_ls (fx_pt w8 a0 2 v34) fun u35 => fx_lr (u35 a0 4) fun b39 => fx_lc (f_X3_add u35 b39 124 0) fun v45 u45 => fx_lc (f_X4_readPart_L5 u45 a0 x1) fun v52 u52 => fx_ls (f_X3_leadHere u52 b39 v45) fun u62 => fx_lt (p8_3 + 1) fun v65 => rec8 v52 v65 u62 else (p8_2, w8))) else (p8_2, w8))
def kL_X4_readParts_L5_8 (a0 : Nat) (x1 : Int) : Nat → Int → Int → fx_U → Int × fx_U
  | 0, _, _, _ => (0, fun _ _ => 0)
  | n + 1, p8_2, p8_3, w8 => kB_X4_readParts_L5_8 (kL_X4_readParts_L5_8 a0 x1 n) a0 x1 p8_2 p8_3 w8
def f_X4_readParts_L5 (u : fx_U) (a0 : Nat) (x1 : Int) : Int × fx_U :=
  fx_lr (u a0 0) fun at1 => fx_lc (f_X4_readPart_L5 u a0 x1) fun v2 u2 => kL_X4_readParts_L5_8 a0 x1 (Int.toNat (240 - 0) + 1) v2 0 u2
def kJ_X4_readPiece_L4_123 (u86 : fx_U) (a0 : Nat) (x1 : Int) (v95 : Int) : Int × fx_U :=
  fx_lt (u86 a0 2) fun v125 => fx_lt (fx_b_add v125 1) fun v129 => fx_ls (fx_pt u86 a0 2 v129) fun u130 => fx_lc (f_X4_readSum_L4 u130 a0 x1) fun v135 u135 => (if v135 = 0 then (0, u135) else fx_lr (u135 a0 4) fun b144 => fx_lc (f_X3_add u135 b144 v95 0) fun v149 u149 => (1, u149))
def f_X4_readPiece_L4 (u : fx_U) (a0 : Nat) (x1 : Int) : Int × fx_U :=
  fx_lr (u a0 0) fun at1 => fx_lt (f_X4_peek u a0) fun v1 => (if v1 = 33 then fx_lc (f_X4_mayOpen u a0 x1) fun v11 u11 => (if v11 = 0 then (0, u11) else fx_lt (x1 + 1) fun v20 => fx_lc (f_X4_readPiece_L5 u11 a0 v20) fun v21 u21 => (if v21 = 0 then (0, u21) else fx_lr (u21 a0 4) fun b30 => fx_lc (f_X3_add u21 b30 33 0) fun v36 u36 => (1, u36))) else fx_lt (f_X4_peek u a0) fun v43 => (if v43 = 40 then fx_lc (f_X4_mayOpen u a0 x1) fun v53 u53 => (if v53 = 0 then (0, u53) else fx_lt (x1 + 1) fun v62 => fx_lc (f_X4_readParts_L5 u53 a0 v62) fun v63 u63 => (if v63 = 0 then (0, u63) else fx_lc (f_X4_expect u63 a0 41) fun v72 u72 => (if v72 = 0 then (0, u72) else (1, u72)))) else fx_lc (f_X4_readSum_L4 u a0 x1) fun v86 u86 => (if v86 = 0 then (0, u86) else fx_lt (f_X4_peek u86 a0) fun v95 => (if v95 = 60 then kJ_X4_readPiece_L4_123 u86 a0 x1 v95 else (if v95 = 62 then kJ_X4_readPiece_L4_123 u86 a0 x1 v95 else (if v95 = 61 then kJ_X4_readPiece_L4_123 u86 a0 x1 v95 else fx_lc (f_X4_fail u86 a0 1) fun v119 u119 => (v119, u119)))))))
def kB_X4_readPart_L4_8 (rec8 : (Int → Int → fx_U → Int × fx_U)) (a0 : Nat) (x1 : Int) (p8_2 : Int) (p8_3 : Int) (w8 : fx_U) : Int × fx_U :=
  (if p8_3 < 240 then (if p8_2 = 0 then (p8_2, w8) else fx_lt (f_X4_peek w8 a0) fun v20 => (if v20 = 38 then fx_lt (w8 a0 2) fun v30 => fx_lt (fx_b_add v30 1) fun v34 => fx_ls (fx_pt w8 a0 2 v34) fun u35 => fx_lr (u35 a0 4) fun b39 => fx_lc (f_X3_add u35 b39 38 0) fun v45 u45 => fx_lc (f_X4_readPiece_L4 u45 a0 x1) fun v52 u52 => fx_ls (f_X3_leadHere u52 b39 v45) fun u62 => fx_lt (p8_3 + 1) fun v65 => rec8 v52 v65 u62 else (p8_2, w8))) else (p8_2, w8))
def kL_X4_readPart_L4_8 (a0 : Nat) (x1 : Int) : Nat → Int → Int → fx_U → Int × fx_U
  | 0, _, _, _ => (0, fun _ _ => 0)
  | n + 1, p8_2, p8_3, w8 => kB_X4_readPart_L4_8 (kL_X4_readPart_L4_8 a0 x1 n) a0 x1 p8_2 p8_3 w8
def f_X4_readPart_L4 (u : fx_U) (a0 : Nat) (x1 : Int) : Int × fx_U :=
  fx_lr (u a0 0) fun at1 => fx_lc (f_X4_readPiece_L4 u a0 x1) fun v2 u2 => kL_X4_readPart_L4_8 a0 x1 (Int.toNat (240 - 0) + 1) v2 0 u2
def kB_X4_readParts_L4_8 (rec8 : (Int → Int → fx_U → Int × fx_U)) (a0 : Nat) (x1 : Int) (p8_2 : Int) (p8_3 : Int) (w8 : fx_U) : Int × fx_U :=
  (if p8_3 < 240 then (if p8_2 = 0 then (p8_2, w8) else fx_lt (f_X4_peek w8 a0) fun v20 => (if v20 = 124 then fx_lt (w8 a0 2) fun v30 => fx_lt (fx_b_add v30 1) fun v34 => fx_ls (fx_pt w8 a0 2 v34) fun u35 => fx_lr (u35 a0 4) fun b39 => fx_lc (f_X3_add u35 b39 124 0) fun v45 u45 => fx_lc (f_X4_readPart_L4 u45 a0 x1) fun v52 u52 => fx_ls (f_X3_leadHere u52 b39 v45) fun u62 => fx_lt (p8_3 + 1) fun v65 => rec8 v52 v65 u62 else (p8_2, w8))) else (p8_2, w8))
def kL_X4_readParts_L4_8 (a0 : Nat) (x1 : Int) : Nat → Int → Int → fx_U → Int × fx_U
  | 0, _, _, _ => (0, fun _ _ => 0)
  | n + 1, p8_2, p8_3, w8 => kB_X4_readParts_L4_8 (kL_X4_readParts_L4_8 a0 x1 n) a0 x1 p8_2 p8_3 w8
def f_X4_readParts_L4 (u : fx_U) (a0 : Nat) (x1 : Int) : Int × fx_U :=
  fx_lr (u a0 0) fun at1 => fx_lc (f_X4_readPart_L4 u a0 x1) fun v2 u2 => kL_X4_readParts_L4_8 a0 x1 (Int.toNat (240 - 0) + 1) v2 0 u2
def kJ_X4_readPiece_L3_123 (u86 : fx_U) (a0 : Nat) (x1 : Int) (v95 : Int) : Int × fx_U :=
  fx_lt (u86 a0 2) fun v125 => fx_lt (fx_b_add v125 1) fun v129 => fx_ls (fx_pt u86 a0 2 v129) fun u130 => fx_lc (f_X4_readSum_L3 u130 a0 x1) fun v135 u135 => (if v135 = 0 then (0, u135) else fx_lr (u135 a0 4) fun b144 => fx_lc (f_X3_add u135 b144 v95 0) fun v149 u149 => (1, u149))
def f_X4_readPiece_L3 (u : fx_U) (a0 : Nat) (x1 : Int) : Int × fx_U :=
  fx_lr (u a0 0) fun at1 => fx_lt (f_X4_peek u a0) fun v1 => (if v1 = 33 then fx_lc (f_X4_mayOpen u a0 x1) fun v11 u11 => (if v11 = 0 then (0, u11) else fx_lt (x1 + 1) fun v20 => fx_lc (f_X4_readPiece_L4 u11 a0 v20) fun v21 u21 => (if v21 = 0 then (0, u21) else fx_lr (u21 a0 4) fun b30 => fx_lc (f_X3_add u21 b30 33 0) fun v36 u36 => (1, u36))) else fx_lt (f_X4_peek u a0) fun v43 => (if v43 = 40 then fx_lc (f_X4_mayOpen u a0 x1) fun v53 u53 => (if v53 = 0 then (0, u53) else fx_lt (x1 + 1) fun v62 => fx_lc (f_X4_readParts_L4 u53 a0 v62) fun v63 u63 => (if v63 = 0 then (0, u63) else fx_lc (f_X4_expect u63 a0 41) fun v72 u72 => (if v72 = 0 then (0, u72) else (1, u72)))) else fx_lc (f_X4_readSum_L3 u a0 x1) fun v86 u86 => (if v86 = 0 then (0, u86) else fx_lt (f_X4_peek u86 a0) fun v95 => (if v95 = 60 then kJ_X4_readPiece_L3_123 u86 a0 x1 v95 else (if v95 = 62 then kJ_X4_readPiece_L3_123 u86 a0 x1 v95 else (if v95 = 61 then kJ_X4_readPiece_L3_123 u86 a0 x1 v95 else fx_lc (f_X4_fail u86 a0 1) fun v119 u119 => (v119, u119)))))))
def kB_X4_readPart_L3_8 (rec8 : (Int → Int → fx_U → Int × fx_U)) (a0 : Nat) (x1 : Int) (p8_2 : Int) (p8_3 : Int) (w8 : fx_U) : Int × fx_U :=
  (if p8_3 < 240 then (if p8_2 = 0 then (p8_2, w8) else fx_lt (f_X4_peek w8 a0) fun v20 => (if v20 = 38 then fx_lt (w8 a0 2) fun v30 => fx_lt (fx_b_add v30 1) fun v34 => fx_ls (fx_pt w8 a0 2 v34) fun u35 => fx_lr (u35 a0 4) fun b39 => fx_lc (f_X3_add u35 b39 38 0) fun v45 u45 => fx_lc (f_X4_readPiece_L3 u45 a0 x1) fun v52 u52 => fx_ls (f_X3_leadHere u52 b39 v45) fun u62 => fx_lt (p8_3 + 1) fun v65 => rec8 v52 v65 u62 else (p8_2, w8))) else (p8_2, w8))
def kL_X4_readPart_L3_8 (a0 : Nat) (x1 : Int) : Nat → Int → Int → fx_U → Int × fx_U
  | 0, _, _, _ => (0, fun _ _ => 0)
  | n + 1, p8_2, p8_3, w8 => kB_X4_readPart_L3_8 (kL_X4_readPart_L3_8 a0 x1 n) a0 x1 p8_2 p8_3 w8
def f_X4_readPart_L3 (u : fx_U) (a0 : Nat) (x1 : Int) : Int × fx_U :=
  fx_lr (u a0 0) fun at1 => fx_lc (f_X4_readPiece_L3 u a0 x1) fun v2 u2 => kL_X4_readPart_L3_8 a0 x1 (Int.toNat (240 - 0) + 1) v2 0 u2
def kB_X4_readParts_L3_8 (rec8 : (Int → Int → fx_U → Int × fx_U)) (a0 : Nat) (x1 : Int) (p8_2 : Int) (p8_3 : Int) (w8 : fx_U) : Int × fx_U :=
  (if p8_3 < 240 then (if p8_2 = 0 then (p8_2, w8) else fx_lt (f_X4_peek w8 a0) fun v20 => (if v20 = 124 then fx_lt (w8 a0 2) fun v30 => fx_lt (fx_b_add v30 1) fun v34 => fx_ls (fx_pt w8 a0 2 v34) fun u35 => fx_lr (u35 a0 4) fun b39 => fx_lc (f_X3_add u35 b39 124 0) fun v45 u45 => fx_lc (f_X4_readPart_L3 u45 a0 x1) fun v52 u52 => fx_ls (f_X3_leadHere u52 b39 v45) fun u62 => fx_lt (p8_3 + 1) fun v65 => rec8 v52 v65 u62 else (p8_2, w8))) else (p8_2, w8))
def kL_X4_readParts_L3_8 (a0 : Nat) (x1 : Int) : Nat → Int → Int → fx_U → Int × fx_U
  | 0, _, _, _ => (0, fun _ _ => 0)
  | n + 1, p8_2, p8_3, w8 => kB_X4_readParts_L3_8 (kL_X4_readParts_L3_8 a0 x1 n) a0 x1 p8_2 p8_3 w8
def f_X4_readParts_L3 (u : fx_U) (a0 : Nat) (x1 : Int) : Int × fx_U :=
  fx_lr (u a0 0) fun at1 => fx_lc (f_X4_readPart_L3 u a0 x1) fun v2 u2 => kL_X4_readParts_L3_8 a0 x1 (Int.toNat (240 - 0) + 1) v2 0 u2
def kJ_X4_readPiece_L2_123 (u86 : fx_U) (a0 : Nat) (x1 : Int) (v95 : Int) : Int × fx_U :=
  fx_lt (u86 a0 2) fun v125 => fx_lt (fx_b_add v125 1) fun v129 => fx_ls (fx_pt u86 a0 2 v129) fun u130 => fx_lc (f_X4_readSum_L2 u130 a0 x1) fun v135 u135 => (if v135 = 0 then (0, u135) else fx_lr (u135 a0 4) fun b144 => fx_lc (f_X3_add u135 b144 v95 0) fun v149 u149 => (1, u149))
def f_X4_readPiece_L2 (u : fx_U) (a0 : Nat) (x1 : Int) : Int × fx_U :=
  fx_lr (u a0 0) fun at1 => fx_lt (f_X4_peek u a0) fun v1 => (if v1 = 33 then fx_lc (f_X4_mayOpen u a0 x1) fun v11 u11 => (if v11 = 0 then (0, u11) else fx_lt (x1 + 1) fun v20 => fx_lc (f_X4_readPiece_L3 u11 a0 v20) fun v21 u21 => (if v21 = 0 then (0, u21) else fx_lr (u21 a0 4) fun b30 => fx_lc (f_X3_add u21 b30 33 0) fun v36 u36 => (1, u36))) else fx_lt (f_X4_peek u a0) fun v43 => (if v43 = 40 then fx_lc (f_X4_mayOpen u a0 x1) fun v53 u53 => (if v53 = 0 then (0, u53) else fx_lt (x1 + 1) fun v62 => fx_lc (f_X4_readParts_L3 u53 a0 v62) fun v63 u63 => (if v63 = 0 then (0, u63) else fx_lc (f_X4_expect u63 a0 41) fun v72 u72 => (if v72 = 0 then (0, u72) else (1, u72)))) else fx_lc (f_X4_readSum_L2 u a0 x1) fun v86 u86 => (if v86 = 0 then (0, u86) else fx_lt (f_X4_peek u86 a0) fun v95 => (if v95 = 60 then kJ_X4_readPiece_L2_123 u86 a0 x1 v95 else (if v95 = 62 then kJ_X4_readPiece_L2_123 u86 a0 x1 v95 else (if v95 = 61 then kJ_X4_readPiece_L2_123 u86 a0 x1 v95 else fx_lc (f_X4_fail u86 a0 1) fun v119 u119 => (v119, u119)))))))
def kB_X4_readPart_L2_8 (rec8 : (Int → Int → fx_U → Int × fx_U)) (a0 : Nat) (x1 : Int) (p8_2 : Int) (p8_3 : Int) (w8 : fx_U) : Int × fx_U :=
  (if p8_3 < 240 then (if p8_2 = 0 then (p8_2, w8) else fx_lt (f_X4_peek w8 a0) fun v20 => (if v20 = 38 then fx_lt (w8 a0 2) fun v30 => fx_lt (fx_b_add v30 1) fun v34 => fx_ls (fx_pt w8 a0 2 v34) fun u35 => fx_lr (u35 a0 4) fun b39 => fx_lc (f_X3_add u35 b39 38 0) fun v45 u45 => fx_lc (f_X4_readPiece_L2 u45 a0 x1) fun v52 u52 => fx_ls (f_X3_leadHere u52 b39 v45) fun u62 => fx_lt (p8_3 + 1) fun v65 => rec8 v52 v65 u62 else (p8_2, w8))) else (p8_2, w8))
def kL_X4_readPart_L2_8 (a0 : Nat) (x1 : Int) : Nat → Int → Int → fx_U → Int × fx_U
  | 0, _, _, _ => (0, fun _ _ => 0)
  | n + 1, p8_2, p8_3, w8 => kB_X4_readPart_L2_8 (kL_X4_readPart_L2_8 a0 x1 n) a0 x1 p8_2 p8_3 w8
def f_X4_readPart_L2 (u : fx_U) (a0 : Nat) (x1 : Int) : Int × fx_U :=
  fx_lr (u a0 0) fun at1 => fx_lc (f_X4_readPiece_L2 u a0 x1) fun v2 u2 => kL_X4_readPart_L2_8 a0 x1 (Int.toNat (240 - 0) + 1) v2 0 u2
def kB_X4_readParts_L2_8 (rec8 : (Int → Int → fx_U → Int × fx_U)) (a0 : Nat) (x1 : Int) (p8_2 : Int) (p8_3 : Int) (w8 : fx_U) : Int × fx_U :=
  (if p8_3 < 240 then (if p8_2 = 0 then (p8_2, w8) else fx_lt (f_X4_peek w8 a0) fun v20 => (if v20 = 124 then fx_lt (w8 a0 2) fun v30 => fx_lt (fx_b_add v30 1) fun v34 => fx_ls (fx_pt w8 a0 2 v34) fun u35 => fx_lr (u35 a0 4) fun b39 => fx_lc (f_X3_add u35 b39 124 0) fun v45 u45 => fx_lc (f_X4_readPart_L2 u45 a0 x1) fun v52 u52 => fx_ls (f_X3_leadHere u52 b39 v45) fun u62 => fx_lt (p8_3 + 1) fun v65 => rec8 v52 v65 u62 else (p8_2, w8))) else (p8_2, w8))
def kL_X4_readParts_L2_8 (a0 : Nat) (x1 : Int) : Nat → Int → Int → fx_U → Int × fx_U
  | 0, _, _, _ => (0, fun _ _ => 0)
  | n + 1, p8_2, p8_3, w8 => kB_X4_readParts_L2_8 (kL_X4_readParts_L2_8 a0 x1 n) a0 x1 p8_2 p8_3 w8
def f_X4_readParts_L2 (u : fx_U) (a0 : Nat) (x1 : Int) : Int × fx_U :=
  fx_lr (u a0 0) fun at1 => fx_lc (f_X4_readPart_L2 u a0 x1) fun v2 u2 => kL_X4_readParts_L2_8 a0 x1 (Int.toNat (240 - 0) + 1) v2 0 u2
def kJ_X4_readPiece_L1_123 (u86 : fx_U) (a0 : Nat) (x1 : Int) (v95 : Int) : Int × fx_U :=
  fx_lt (u86 a0 2) fun v125 => fx_lt (fx_b_add v125 1) fun v129 => fx_ls (fx_pt u86 a0 2 v129) fun u130 => fx_lc (f_X4_readSum_L1 u130 a0 x1) fun v135 u135 => (if v135 = 0 then (0, u135) else fx_lr (u135 a0 4) fun b144 => fx_lc (f_X3_add u135 b144 v95 0) fun v149 u149 => (1, u149))
def f_X4_readPiece_L1 (u : fx_U) (a0 : Nat) (x1 : Int) : Int × fx_U :=
  fx_lr (u a0 0) fun at1 => fx_lt (f_X4_peek u a0) fun v1 => (if v1 = 33 then fx_lc (f_X4_mayOpen u a0 x1) fun v11 u11 => (if v11 = 0 then (0, u11) else fx_lt (x1 + 1) fun v20 => fx_lc (f_X4_readPiece_L2 u11 a0 v20) fun v21 u21 => (if v21 = 0 then (0, u21) else fx_lr (u21 a0 4) fun b30 => fx_lc (f_X3_add u21 b30 33 0) fun v36 u36 => (1, u36))) else fx_lt (f_X4_peek u a0) fun v43 => (if v43 = 40 then fx_lc (f_X4_mayOpen u a0 x1) fun v53 u53 => (if v53 = 0 then (0, u53) else fx_lt (x1 + 1) fun v62 => fx_lc (f_X4_readParts_L2 u53 a0 v62) fun v63 u63 => (if v63 = 0 then (0, u63) else fx_lc (f_X4_expect u63 a0 41) fun v72 u72 => (if v72 = 0 then (0, u72) else (1, u72)))) else fx_lc (f_X4_readSum_L1 u a0 x1) fun v86 u86 => (if v86 = 0 then (0, u86) else fx_lt (f_X4_peek u86 a0) fun v95 => (if v95 = 60 then kJ_X4_readPiece_L1_123 u86 a0 x1 v95 else (if v95 = 62 then kJ_X4_readPiece_L1_123 u86 a0 x1 v95 else (if v95 = 61 then kJ_X4_readPiece_L1_123 u86 a0 x1 v95 else fx_lc (f_X4_fail u86 a0 1) fun v119 u119 => (v119, u119)))))))
def kB_X4_readPart_L1_8 (rec8 : (Int → Int → fx_U → Int × fx_U)) (a0 : Nat) (x1 : Int) (p8_2 : Int) (p8_3 : Int) (w8 : fx_U) : Int × fx_U :=
  (if p8_3 < 240 then (if p8_2 = 0 then (p8_2, w8) else fx_lt (f_X4_peek w8 a0) fun v20 => (if v20 = 38 then fx_lt (w8 a0 2) fun v30 => fx_lt (fx_b_add v30 1) fun v34 => fx_ls (fx_pt w8 a0 2 v34) fun u35 => fx_lr (u35 a0 4) fun b39 => fx_lc (f_X3_add u35 b39 38 0) fun v45 u45 => fx_lc (f_X4_readPiece_L1 u45 a0 x1) fun v52 u52 => fx_ls (f_X3_leadHere u52 b39 v45) fun u62 => fx_lt (p8_3 + 1) fun v65 => rec8 v52 v65 u62 else (p8_2, w8))) else (p8_2, w8))
def kL_X4_readPart_L1_8 (a0 : Nat) (x1 : Int) : Nat → Int → Int → fx_U → Int × fx_U
  | 0, _, _, _ => (0, fun _ _ => 0)
  | n + 1, p8_2, p8_3, w8 => kB_X4_readPart_L1_8 (kL_X4_readPart_L1_8 a0 x1 n) a0 x1 p8_2 p8_3 w8
def f_X4_readPart_L1 (u : fx_U) (a0 : Nat) (x1 : Int) : Int × fx_U :=
  fx_lr (u a0 0) fun at1 => fx_lc (f_X4_readPiece_L1 u a0 x1) fun v2 u2 => kL_X4_readPart_L1_8 a0 x1 (Int.toNat (240 - 0) + 1) v2 0 u2
def kB_X4_readParts_L1_8 (rec8 : (Int → Int → fx_U → Int × fx_U)) (a0 : Nat) (x1 : Int) (p8_2 : Int) (p8_3 : Int) (w8 : fx_U) : Int × fx_U :=
  (if p8_3 < 240 then (if p8_2 = 0 then (p8_2, w8) else fx_lt (f_X4_peek w8 a0) fun v20 => (if v20 = 124 then fx_lt (w8 a0 2) fun v30 => fx_lt (fx_b_add v30 1) fun v34 => fx_ls (fx_pt w8 a0 2 v34) fun u35 => fx_lr (u35 a0 4) fun b39 => fx_lc (f_X3_add u35 b39 124 0) fun v45 u45 => fx_lc (f_X4_readPart_L1 u45 a0 x1) fun v52 u52 => fx_ls (f_X3_leadHere u52 b39 v45) fun u62 => fx_lt (p8_3 + 1) fun v65 => rec8 v52 v65 u62 else (p8_2, w8))) else (p8_2, w8))
def kL_X4_readParts_L1_8 (a0 : Nat) (x1 : Int) : Nat → Int → Int → fx_U → Int × fx_U
  | 0, _, _, _ => (0, fun _ _ => 0)
  | n + 1, p8_2, p8_3, w8 => kB_X4_readParts_L1_8 (kL_X4_readParts_L1_8 a0 x1 n) a0 x1 p8_2 p8_3 w8
def f_X4_readParts_L1 (u : fx_U) (a0 : Nat) (x1 : Int) : Int × fx_U :=
  fx_lr (u a0 0) fun at1 => fx_lc (f_X4_readPart_L1 u a0 x1) fun v2 u2 => kL_X4_readParts_L1_8 a0 x1 (Int.toNat (240 - 0) + 1) v2 0 u2
def kJ_X4_readClause_41 (x1 : Int) (u : fx_U) (a0 : Nat) (v1 : Int) : Int × fx_U :=
  (if x1 < 16 then fx_lt (u a0 2) fun v55 => fx_lt (fx_b_add v55 1) fun v59 => fx_ls (fx_pt u a0 2 v59) fun u60 => fx_lr (u60 a0 4) fun b64 => fx_ls (f_X3_beginClause u60 b64 v1) fun u68 => fx_lc (f_X4_readSum_L0 u68 a0 0) fun v73 u73 => (if v73 = 0 then (0, u73) else fx_lc (f_X4_expect u73 a0 40) fun v82 u82 => (if v82 = 0 then (0, u82) else fx_lc (f_X3_add u82 b64 59 0) fun v97 u97 => fx_ls (f_X3_beginCondition u97 b64) fun u105 => fx_lc (f_X4_readParts_L1 u105 a0 1) fun v110 u110 => (if v110 = 0 then (0, u110) else fx_lc (f_X4_expect u110 a0 41) fun v119 u119 => (if v119 = 0 then (0, u119) else fx_lc (f_X3_add u119 b64 59 0) fun v134 u134 => (1, u134))))) else fx_lc (f_X4_fail u a0 4) fun v49 u49 => (v49, u49))
def f_X4_readClause (u : fx_U) (a0 : Nat) (x1 : Int) : Int × fx_U :=
  fx_lr (u a0 0) fun at1 => fx_lt (f_X4_peek u a0) fun v1 => (if v1 = 112 then kJ_X4_readClause_41 x1 u a0 v1 else (if v1 = 100 then kJ_X4_readClause_41 x1 u a0 v1 else (if v1 = 115 then kJ_X4_readClause_41 x1 u a0 v1 else (if v1 = 111 then kJ_X4_readClause_41 x1 u a0 v1 else (if v1 = 108 then kJ_X4_readClause_41 x1 u a0 v1 else fx_lc (f_X4_fail u a0 1) fun v37 u37 => (v37, u37))))))
def kB_X4_read_34 (rec34 : (Int → fx_U → Int × fx_U)) (a0 : Nat) (p34_3 : Int) (w34 : fx_U) : Int × fx_U :=
  (if 16 < p34_3 then fx_lt (w34 a0 3) fun v78 => (v78, w34) else fx_lc (f_X4_readClause w34 a0 p34_3) fun v42 u42 => (if v42 = 0 then fx_lt (u42 a0 3) fun v78 => (v78, u42) else fx_lt (u42 a0 2) fun v49 => fx_lt (u42 a0 1) fun v53 => (if v49 < v53 then fx_lc (f_X4_expect u42 a0 59) fun v62 u62 => (if v62 = 0 then fx_lt (u62 a0 3) fun v78 => (v78, u62) else fx_lt (p34_3 + 1) fun v71 => rec34 v71 u62) else fx_lt (u42 a0 3) fun v78 => (v78, u42))))
def kL_X4_read_34 (a0 : Nat) : Nat → Int → fx_U → Int × fx_U
  | 0, _, _ => (0, fun _ _ => 0)
  | n + 1, p34_3, w34 => kB_X4_read_34 (kL_X4_read_34 a0 n) a0 p34_3 w34
def f_X4_read (u : fx_U) (a0 : Nat) (a1 : Nat) (x2 : Int) : Int × fx_U :=
  fx_ls (fx_pt u a0 0 (a1 : Nat)) fun u2 => fx_lt (f_J9_min_7cf53 u2 x2 260) fun v9 => fx_ls (fx_pt u2 a0 1 v9) fun u12 => fx_ls (fx_pt u12 a0 2 0) fun u17 => fx_ls (fx_pt u17 a0 3 0) fun u22 => fx_lr (u22 a0 4) fun b26 => fx_ls (f_X3_clear u22 b26) fun u29 => kL_X4_read_34 a0 (Int.toNat (17 - 0) + 1) 0 u29
def kJ_X5_beginDots_90 (p2_2 : Int) (rec2 : (Int → fx_U → fx_U)) (w90 : fx_U) : fx_U :=
  fx_lt (p2_2 + 1) fun v90 => rec2 v90 w90
def kB_X5_beginDots_2 (rec2 : (Int → fx_U → fx_U)) (a0 : Nat) (a1 : Nat) (p2_2 : Int) (w2 : fx_U) : fx_U :=
  (if p2_2 < 2 then fx_lr (w2 a0 9) fun b8 => fx_lt (w2 b8 p2_2.toNat) fun v12 => (if v12 = 0 then kJ_X5_beginDots_90 p2_2 rec2 w2 else fx_lr (w2 a0 10) fun b17 => fx_lt (w2 b17 p2_2.toNat) fun v21 => (if v21 = (-2) then fx_lt (f_X7_nextFor w2 a0 p2_2) fun v32 => (if v32 = (-2) then fx_ls (fx_pt w2 b8 p2_2.toNat 0) fun u48 => kJ_X5_beginDots_90 p2_2 rec2 u48 else fx_lt (f_X7_conesInUse w2 a0) fun v53 => fx_lt (w2 a0 15) fun v57 => (if v53 < v57 then fx_ls (fx_pt w2 b17 p2_2.toNat v32) fun u69 => fx_lr (u69 a0 11) fun b71 => fx_lt (u69 a0 17) fun v81 => fx_lc (f_X3_ask u69 a1 112 a0 v32 v81 p2_2 0) fun v86 u86 => fx_ls (fx_pt u86 b71 p2_2.toNat v86) fun u89 => kJ_X5_beginDots_90 p2_2 rec2 u89 else kJ_X5_beginDots_90 p2_2 rec2 w2)) else kJ_X5_beginDots_90 p2_2 rec2 w2)) else w2)
def kL_X5_beginDots_2 (a0 : Nat) (a1 : Nat) : Nat → Int → fx_U → fx_U
  | 0, _, _ => (fun _ _ => 0)
  | n + 1, p2_2, w2 => kB_X5_beginDots_2 (kL_X5_beginDots_2 a0 a1 n) a0 a1 p2_2 w2
def f_X5_beginDots (u : fx_U) (a0 : Nat) (a1 : Nat) : fx_U :=
  kL_X5_beginDots_2 a0 a1 (Int.toNat (2 - 0) + 1) 0 u
def kJ_X5_paintDots_114 (p4_3 : Int) (rec4 : (Int → Int → fx_U → Int × fx_U)) (p114_2 : Int) (w114 : fx_U) : Int × fx_U :=
  fx_lt (p4_3 + 1) fun v114 => rec4 p114_2 v114 w114
def kB_X5_paintDots_4 (rec4 : (Int → Int → fx_U → Int × fx_U)) (a0 : Nat) (a1 : Nat) (p4_2 : Int) (p4_3 : Int) (w4 : fx_U) : Int × fx_U :=
  (if p4_3 < 2 then fx_lr (w4 a0 10) fun b10 => fx_lt (w4 b10 p4_3.toNat) fun v14 => fx_lt (f_X7_isDot w4 a0 v14) fun v20 => (if v20 = 0 then kJ_X5_paintDots_114 p4_3 rec4 p4_2 w4 else fx_lr (w4 a0 11) fun b30 => fx_lt (w4 b30 p4_3.toNat) fun v35 => fx_lt (fx_b_sub v35 1) fun v37 => fx_ls (fx_pt w4 b30 p4_3.toNat v37) fun u38 => (if 0 < v37 then kJ_X5_paintDots_114 p4_3 rec4 p4_2 u38 else fx_ls (fx_pt u38 b10 p4_3.toNat (-2)) fun u58 => fx_lr (u58 a0 5) fun b60 => fx_lt (f_X7_offsetBy u58 a0 p4_3 v14) fun v69 => fx_ls (fx_pt u58 b60 v14.toNat v69) fun u72 => fx_lr (u72 a0 6) fun b74 => fx_lt (u72 a0 17) fun v80 => fx_lt (fx_b_add v80 1) fun v84 => fx_ls (fx_pt u72 b74 v14.toNat v84) fun u85 => fx_lr (u85 a0 7) fun b87 => fx_lc (f_X3_ask u85 a1 100 a0 v14 v84 p4_3 0) fun v107 u107 => fx_ls (fx_pt u107 b87 v14.toNat v107) fun u110 => fx_lt (fx_b_add p4_2 1) fun v111 => kJ_X5_paintDots_114 p4_3 rec4 v111 u110)) else (p4_2, w4))
def kL_X5_paintDots_4 (a0 : Nat) (a1 : Nat) : Nat → Int → Int → fx_U → Int × fx_U
  | 0, _, _, _ => (0, fun _ _ => 0)
  | n + 1, p4_2, p4_3, w4 => kB_X5_paintDots_4 (kL_X5_paintDots_4 a0 a1 n) a0 a1 p4_2 p4_3 w4
def f_X5_paintDots (u : fx_U) (a0 : Nat) (a1 : Nat) : Int × fx_U :=
  kL_X5_paintDots_4 a0 a1 (Int.toNat (2 - 0) + 1) 0 0 u
def kJ_X5_drive_89 (p2_1 : Int) (rec2 : (Int → fx_U → fx_U)) (w89 : fx_U) : fx_U :=
  fx_lt (p2_1 + 1) fun v89 => rec2 v89 w89
def kJ_X5_drive_83 (w2 : fx_U) (a0 : Nat) (p58_s0 : Int) (p2_1 : Int) (rec2 : (Int → fx_U → fx_U)) : fx_U :=
  fx_ls (f_X7_spoil w2 a0 p58_s0 p2_1) fun u86 => kJ_X5_drive_89 p2_1 rec2 u86
def kJ_X5_drive_58 (w2 : fx_U) (a0 : Nat) (p2_1 : Int) (rec2 : (Int → fx_U → fx_U)) (p58_s0 : Int) : fx_U :=
  fx_lt (f_X7_isDot w2 a0 p58_s0) fun v61 => (if v61 = 0 then kJ_X5_drive_89 p2_1 rec2 w2 else fx_lt (f_X7_isWet w2 a0 p58_s0) fun v69 => (if v69 = 0 then fx_lt (f_X7_isBeingPainted w2 a0 p58_s0) fun v77 => (if v77 = 0 then kJ_X5_drive_89 p2_1 rec2 w2 else kJ_X5_drive_83 w2 a0 p58_s0 p2_1 rec2) else kJ_X5_drive_83 w2 a0 p58_s0 p2_1 rec2))
def kB_X5_drive_2 (rec2 : (Int → fx_U → fx_U)) (a0 : Nat) (p2_1 : Int) (w2 : fx_U) : fx_U :=
  (if p2_1 < 12 then fx_lt (w2 a0 17) fun v9 => fx_lr (w2 a0 14) fun b13 => fx_lt (w2 b13 p2_1.toNat) fun v17 => fx_lt (fx_b_sub v9 v17) fun v18 => fx_lr (w2 a0 13) fun b21 => fx_lt (w2 b21 p2_1.toNat) fun v25 => (if v25 = (-1) then kJ_X5_drive_89 p2_1 rec2 w2 else (if v18 < 0 then kJ_X5_drive_89 p2_1 rec2 w2 else (if v25 = 0 then kJ_X5_drive_58 w2 a0 p2_1 rec2 v18 else fx_lt (w2 a0 0) fun v51 => fx_lt (v51 - 1) fun v55 => fx_lt (v55 - v18) fun v57 => kJ_X5_drive_58 w2 a0 p2_1 rec2 v57))) else w2)
def kL_X5_drive_2 (a0 : Nat) : Nat → Int → fx_U → fx_U
  | 0, _, _ => (fun _ _ => 0)
  | n + 1, p2_1, w2 => kB_X5_drive_2 (kL_X5_drive_2 a0 n) a0 p2_1 w2
def f_X5_drive (u : fx_U) (a0 : Nat) : fx_U :=
  kL_X5_drive_2 a0 (Int.toNat (12 - 0) + 1) 0 u
def kJ_X5_letDewFall_37 (p14_1 : Int) (rec14 : (Int → fx_U → fx_U)) (w37 : fx_U) : fx_U :=
  fx_lt (p14_1 + 1) fun v37 => rec14 v37 w37
def kB_X5_letDewFall_14 (rec14 : (Int → fx_U → fx_U)) (a0 : Nat) (p14_1 : Int) (w14 : fx_U) : fx_U :=
  fx_lt (w14 a0 0) fun v16 => (if p14_1 < v16 then fx_lt (f_X7_isWet w14 a0 p14_1) fun v24 => (if v24 = 0 then kJ_X5_letDewFall_37 p14_1 rec14 w14 else fx_ls (f_X7_spoil w14 a0 p14_1 12) fun u34 => kJ_X5_letDewFall_37 p14_1 rec14 u34) else w14)
def kL_X5_letDewFall_14 (a0 : Nat) : Nat → Int → fx_U → fx_U
  | 0, _, _ => (fun _ _ => 0)
  | n + 1, p14_1, w14 => kB_X5_letDewFall_14 (kL_X5_letDewFall_14 a0 n) a0 p14_1 w14
def f_X5_letDewFall (u : fx_U) (a0 : Nat) : fx_U :=
  fx_lt (u a0 17) fun v1 => fx_lt (u a0 16) fun v5 => (if v1 = v5 then kL_X5_letDewFall_14 a0 (Int.toNat (64 - 0) + 1) 0 u else u)
def kB_X5_pass_5 (rec5 : (Int → Int → fx_U → Int × fx_U)) (x2 : Int) (a0 : Nat) (a1 : Nat) (p5_3 : Int) (p5_4 : Int) (w5 : fx_U) : Int × fx_U :=
  (if p5_4 < x2 then fx_lt (w5 a0 17) fun v12 => (if v12 < 9999 then fx_ls (f_X5_beginDots w5 a0 a1) fun u23 => fx_lc (f_X5_paintDots u23 a0 a1) fun v29 u29 => fx_lt (fx_b_add p5_3 v29) fun v32 => fx_ls (f_X5_drive u29 a0) fun u35 => fx_ls (f_X5_letDewFall u35 a0) fun u39 => fx_lt (v12 + 1) fun v48 => fx_ls (fx_pt u39 a0 17 v48) fun u49 => fx_lt (p5_4 + 1) fun v52 => rec5 v32 v52 u49 else (p5_3, w5)) else (p5_3, w5))
def kL_X5_pass_5 (x2 : Int) (a0 : Nat) (a1 : Nat) : Nat → Int → Int → fx_U → Int × fx_U
  | 0, _, _, _ => (0, fun _ _ => 0)
  | n + 1, p5_3, p5_4, w5 => kB_X5_pass_5 (kL_X5_pass_5 x2 a0 a1 n) x2 a0 a1 p5_3 p5_4 w5
def f_X5_pass (u : fx_U) (a0 : Nat) (a1 : Nat) (x2 : Int) : Int × fx_U :=
  kL_X5_pass_5 x2 a0 a1 (Int.toNat (600 - 0) + 1) 0 0 u
def kJ_X0_note_25 (a0 : Nat) (x3 : Int) (w25 : fx_U) : fx_U :=
  fx_lt (w25 a0 1) fun v27 => fx_lt (fx_b_add v27 x3) fun v31 => fx_ls (fx_pt w25 a0 1 v31) fun u32 => u32
def kJ_X0_note_15 (u : fx_U) (a0 : Nat) (x1 : Int) (x2 : Int) (x3 : Int) : fx_U :=
  fx_ls (fx_pt u a0 2 x1) fun u17 => fx_ls (fx_pt u17 a0 3 x2) fun u22 => kJ_X0_note_25 a0 x3 u22
def f_X0_note (u : fx_U) (a0 : Nat) (x1 : Int) (x2 : Int) (x3 : Int) : fx_U :=
  fx_lt (u a0 1) fun v1 => (if v1 = 0 then kJ_X0_note_15 u a0 x1 x2 x3 else fx_lt (u a0 2) fun v9 => (if x1 < v9 then kJ_X0_note_15 u a0 x1 x2 x3 else kJ_X0_note_25 a0 x3 u))
def f_X0_isHitByCar (u : fx_U) (a0 : Nat) (x1 : Int) : Int :=
  fx_lt (f_X7_isPainted u a0 x1) fun v2 => (if v2 = 0 then 0 else fx_lr (u a0 8) fun b9 => fx_lt (u b9 x1.toNat) fun v13 => fx_lt (f_X11_isIn u v13 0 11) fun v17 => (if v17 = 0 then 0 else 1))
def f_X0_mustBeSpared (u : fx_U) (a0 : Nat) (x1 : Int) : Int :=
  fx_lt (f_X7_isPainted u a0 x1) fun v2 => (if v2 = 0 then 0 else fx_lt (f_X0_isHitByCar u a0 x1) fun v10 => (if v10 = 0 then fx_lr (u a0 7) fun b17 => fx_lt (u b17 x1.toNat) fun v21 => (if 0 < v21 then 1 else 0) else 0))
def f_X0_hitsFrom (u : fx_U) (a0 : Nat) (x1 : Int) (x2 : Int) : Int :=
  fx_lr (u a0 6) fun b1 => fx_lt (u b1 x1.toNat) fun v5 => (if x2 = 0 then fx_lt (fx_b_sub v5 x1) fun v22 => v22 else fx_lt (u a0 0) fun v15 => fx_lt (v15 - 1) fun v19 => fx_lt (v19 - x1) fun v21 => fx_lt (fx_b_sub v5 v21) fun v22 => v22)
def kJ_X0_freeFrom_68 (p5_4 : Int) (rec5 : (Int → Int → Int)) (p68_3 : Int) : Int :=
  fx_lt (p5_4 + 1) fun v68 => rec5 p68_3 v68
def kB_X0_freeFrom_5 (rec5 : (Int → Int → Int)) (u : fx_U) (a0 : Nat) (x1 : Int) (x2 : Int) (p5_3 : Int) (p5_4 : Int) : Int :=
  fx_lt (u a0 0) fun v8 => (if p5_4 < v8 then fx_lt (f_X0_hitsFrom u a0 p5_4 x1) fun v18 => fx_lt (f_X0_mustBeSpared u a0 p5_4) fun v26 => (if v26 = 0 then kJ_X0_freeFrom_68 p5_4 rec5 p5_3 else fx_lr (u a0 7) fun b38 => fx_lt (u b38 p5_4.toNat) fun v43 => fx_lt (fx_b_add v18 v43) fun v44 => fx_lt (fx_b_sub v44 1) fun v46 => fx_lt (f_X11_isIn u x2 v18 v46) fun v47 => (if v47 = 0 then kJ_X0_freeFrom_68 p5_4 rec5 p5_3 else fx_lt (f_J9_max_7cf53 u p5_3 v44) fun v64 => kJ_X0_freeFrom_68 p5_4 rec5 v64)) else p5_3)
def kL_X0_freeFrom_5 (u : fx_U) (a0 : Nat) (x1 : Int) (x2 : Int) : Nat → Int → Int → Int
  | 0, _, _ => 0
  | n + 1, p5_3, p5_4 => kB_X0_freeFrom_5 (kL_X0_freeFrom_5 u a0 x1 x2 n) u a0 x1 x2 p5_3 p5_4
def f_X0_freeFrom (u : fx_U) (a0 : Nat) (x1 : Int) (x2 : Int) : Int :=
  kL_X0_freeFrom_5 u a0 x1 x2 (Int.toNat (64 - 0) + 1) x2 0
def kJ_X0_nextHit_62 (p8_5 : Int) (rec8 : (Int → Int → Int)) (p62_4 : Int) : Int :=
  fx_lt (p8_5 + 1) fun v62 => rec8 p62_4 v62
def kB_X0_nextHit_8 (rec8 : (Int → Int → Int)) (u : fx_U) (a0 : Nat) (x1 : Int) (x2 : Int) (p8_4 : Int) (p8_5 : Int) : Int :=
  fx_lt (u a0 0) fun v11 => (if p8_5 < v11 then fx_lt (f_X0_hitsFrom u a0 p8_5 x1) fun v21 => fx_lt (f_X0_mustBeSpared u a0 p8_5) fun v29 => (if v29 = 0 then kJ_X0_nextHit_62 p8_5 rec8 p8_4 else fx_lr (u a0 7) fun b39 => fx_lt (u b39 p8_5.toNat) fun v44 => fx_lt (fx_b_add v21 v44) fun v45 => (if x2 < v45 then fx_lt (f_J9_max_7cf53 u x2 v21) fun v54 => fx_lt (f_J9_min_7cf53 u p8_4 v54) fun v57 => kJ_X0_nextHit_62 p8_5 rec8 v57 else kJ_X0_nextHit_62 p8_5 rec8 p8_4)) else p8_4)
def kL_X0_nextHit_8 (u : fx_U) (a0 : Nat) (x1 : Int) (x2 : Int) : Nat → Int → Int → Int
  | 0, _, _ => 0
  | n + 1, p8_4, p8_5 => kB_X0_nextHit_8 (kL_X0_nextHit_8 u a0 x1 x2 n) u a0 x1 x2 p8_4 p8_5
def f_X0_nextHit (u : fx_U) (a0 : Nat) (x1 : Int) (x2 : Int) (x3 : Int) : Int :=
  fx_lt (fx_b_add x3 1) fun v2 => kL_X0_nextHit_8 u a0 x1 x2 (Int.toNat (64 - 0) + 1) v2 0
def kJ_X0_suspectOneWay_125 (v90 : Int) (v101 : Int) (p73_5 : Int) (rec73 : (Int → Int → fx_U → fx_U)) (w125 : fx_U) : fx_U :=
  fx_lt (f_J9_max_7cf53 w125 v90 v101) fun v129 => fx_lt (p73_5 + 1) fun v133 => rec73 v129 v133 w125
def kB_X0_suspectOneWay_73 (rec73 : (Int → Int → fx_U → fx_U)) (p11_4 : Int) (a1 : Nat) (x2 : Int) (a0 : Nat) (p73_3 : Int) (p73_5 : Int) (w73 : fx_U) : fx_U :=
  (if 128 < p73_5 then w73 else (if p11_4 < p73_3 then w73 else fx_lt (f_X0_freeFrom w73 a1 x2 p73_3) fun v90 => fx_lt (f_X0_nextHit w73 a1 x2 v90 p11_4) fun v101 => (if v90 < v101 then fx_lt (fx_b_sub v101 v90) fun v121 => fx_ls (f_X0_note w73 a0 v90 x2 v121) fun u122 => kJ_X0_suspectOneWay_125 v90 v101 p73_5 rec73 u122 else kJ_X0_suspectOneWay_125 v90 v101 p73_5 rec73 w73)))
def kL_X0_suspectOneWay_73 (p11_4 : Int) (a1 : Nat) (x2 : Int) (a0 : Nat) : Nat → Int → Int → fx_U → fx_U
  | 0, _, _, _ => (fun _ _ => 0)
  | n + 1, p73_3, p73_5, w73 => kB_X0_suspectOneWay_73 (kL_X0_suspectOneWay_73 p11_4 a1 x2 a0 n) p11_4 a1 x2 a0 p73_3 p73_5 w73
def kJ_X0_suspectOneWay_64 (p11_5 : Int) (rec11 : (Int → Int → Int → fx_U)) (p64_3 : Int) (p64_4 : Int) : fx_U :=
  fx_lt (p11_5 + 1) fun v64 => rec11 p64_3 p64_4 v64
def kB_X0_suspectOneWay_11 (rec11 : (Int → Int → Int → fx_U)) (u : fx_U) (a1 : Nat) (x2 : Int) (a0 : Nat) (p11_3 : Int) (p11_4 : Int) (p11_5 : Int) : fx_U :=
  fx_lt (u a1 0) fun v14 => (if p11_5 < v14 then fx_lt (f_X0_isHitByCar u a1 p11_5) fun v23 => (if v23 = 0 then kJ_X0_suspectOneWay_64 p11_5 rec11 p11_3 p11_4 else fx_lt (f_X0_hitsFrom u a1 p11_5 x2) fun v33 => fx_lt (f_J9_max_7cf53 u p11_3 v33) fun v41 => fx_lr (u a1 7) fun b50 => fx_lt (u b50 p11_5.toNat) fun v55 => fx_lt (fx_b_add v33 v55) fun v56 => fx_lt (fx_b_sub v56 1) fun v58 => fx_lt (f_J9_min_7cf53 u p11_4 v58) fun v59 => kJ_X0_suspectOneWay_64 p11_5 rec11 v41 v59) else kL_X0_suspectOneWay_73 p11_4 a1 x2 a0 (Int.toNat (129 - 0) + 1) p11_3 0 u)
def kL_X0_suspectOneWay_11 (u : fx_U) (a1 : Nat) (x2 : Int) (a0 : Nat) : Nat → Int → Int → Int → fx_U
  | 0, _, _, _ => (fun _ _ => 0)
  | n + 1, p11_3, p11_4, p11_5 => kB_X0_suspectOneWay_11 (kL_X0_suspectOneWay_11 u a1 x2 a0 n) u a1 x2 a0 p11_3 p11_4 p11_5
def f_X0_suspectOneWay (u : fx_U) (a0 : Nat) (a1 : Nat) (x2 : Int) : fx_U :=
  fx_lt (u a1 17) fun v3 => kL_X0_suspectOneWay_11 u a1 x2 a0 (Int.toNat (64 - 0) + 1) 0 v3 0
def kB_X0_suspect_19 (rec19 : (Int → fx_U → fx_U)) (a0 : Nat) (a1 : Nat) (p19_2 : Int) (w19 : fx_U) : fx_U :=
  (if 1 < p19_2 then w19 else fx_ls (f_X0_suspectOneWay w19 a0 a1 p19_2) fun u27 => fx_lt (p19_2 + 1) fun v30 => rec19 v30 u27)
def kL_X0_suspect_19 (a0 : Nat) (a1 : Nat) : Nat → Int → fx_U → fx_U
  | 0, _, _ => (fun _ _ => 0)
  | n + 1, p19_2, w19 => kB_X0_suspect_19 (kL_X0_suspect_19 a0 a1 n) a0 a1 p19_2 w19
def f_X0_suspect (u : fx_U) (a0 : Nat) (a1 : Nat) : fx_U :=
  fx_ls (fx_pt u a0 1 0) fun u2 => fx_ls (fx_pt u2 a0 2 (-2)) fun u8 => fx_ls (fx_pt u8 a0 3 (-2)) fun u14 => kL_X0_suspect_19 a0 a1 (Int.toNat (2 - 0) + 1) 0 u14
def kB_X7_copyFrom_130 (rec130 : (Int → fx_U → fx_U)) (a0 : Nat) (a1 : Nat) (p130_2 : Int) (w130 : fx_U) : fx_U :=
  (if p130_2 < 2 then fx_lr (w130 a0 9) fun b136 => fx_lr (w130 a1 9) fun b141 => fx_lt (w130 b141 p130_2.toNat) fun v145 => fx_ls (fx_pt w130 b136 p130_2.toNat v145) fun u146 => fx_lr (u146 a0 10) fun b148 => fx_lr (u146 a1 10) fun b153 => fx_lt (u146 b153 p130_2.toNat) fun v157 => fx_ls (fx_pt u146 b148 p130_2.toNat v157) fun u158 => fx_lr (u158 a0 11) fun b160 => fx_lr (u158 a1 11) fun b165 => fx_lt (u158 b165 p130_2.toNat) fun v169 => fx_ls (fx_pt u158 b160 p130_2.toNat v169) fun u170 => fx_lr (u170 a0 12) fun b172 => fx_lr (u170 a1 12) fun b177 => fx_lt (u170 b177 p130_2.toNat) fun v181 => fx_ls (fx_pt u170 b172 p130_2.toNat v181) fun u182 => fx_lt (p130_2 + 1) fun v183 => rec130 v183 u182 else fx_lr (w130 a1 13) fun b190 => fx_lr (w130 a0 13) fun b195 => fx_ls (fx_cy w130 b190 b195 12) fun u201 => fx_lr (u201 a1 14) fun b205 => fx_lr (u201 a0 14) fun b210 => fx_ls (fx_cy u201 b205 b210 12) fun u216 => fx_lt (u216 a1 15) fun v221 => fx_ls (fx_pt u216 a0 15 v221) fun u224 => fx_lt (u224 a1 16) fun v229 => fx_ls (fx_pt u224 a0 16 v229) fun u232 => fx_lt (u232 a1 17) fun v237 => fx_ls (fx_pt u232 a0 17 v237) fun u240 => u240)
def kL_X7_copyFrom_130 (a0 : Nat) (a1 : Nat) : Nat → Int → fx_U → fx_U
  | 0, _, _ => (fun _ _ => 0)
  | n + 1, p130_2, w130 => kB_X7_copyFrom_130 (kL_X7_copyFrom_130 a0 a1 n) a0 a1 p130_2 w130
def f_X7_copyFrom (u : fx_U) (a0 : Nat) (a1 : Nat) : fx_U :=
  fx_lt (u a1 0) fun q_1v => fx_lr (u a0 1) fun q_2b => fx_lr (u a0 2) fun q_3b => fx_lr (u a0 3) fun q_4b => fx_lr (u a1 1) fun q_5b => fx_lr (u a1 2) fun q_6b => fx_lr (u a1 3) fun q_7b => fx_ls (fx_pt u a0 0 q_1v) fun u5 => fx_ls (fx_cy u5 q_5b q_2b 64) fun u20 => fx_ls (fx_cy u20 q_6b q_3b 64) fun u35 => fx_ls (fx_cy u35 q_7b q_4b 64) fun u50 => fx_lr (u50 a1 4) fun b54 => fx_lr (u50 a0 4) fun b59 => fx_ls (fx_cy u50 b54 b59 64) fun u65 => fx_lr (u65 a1 5) fun b69 => fx_lr (u65 a0 5) fun b74 => fx_ls (fx_cy u65 b69 b74 64) fun u80 => fx_lr (u80 a1 6) fun b84 => fx_lr (u80 a0 6) fun b89 => fx_ls (fx_cy u80 b84 b89 64) fun u95 => fx_lr (u95 a1 7) fun b99 => fx_lr (u95 a0 7) fun b104 => fx_ls (fx_cy u95 b99 b104 64) fun u110 => fx_lr (u110 a1 8) fun b114 => fx_lr (u110 a0 8) fun b119 => fx_ls (fx_cy u110 b114 b119 64) fun u125 => kL_X7_copyFrom_130 a0 a1 (Int.toNat (2 - 0) + 1) 0 u125
def f_X11_road (u : fx_U) (a0 : Nat) (x1 : Int) : Int × fx_U :=
  fx_lr (u a0 5) fun q_1b => fx_lt (f_X11_isIn u x1 8 64) fun v5 => (if v5 = 0 then (0, u) else fx_ls (f_X7_layAnew u q_1b x1) fun u18 => (1, u18))
def kJ_X11_row_54 (u : fx_U) (b30 : Nat) (b34 : Nat) (x2 : Int) (v42 : Int) (a0 : Nat) (b39 : Nat) (x1 : Int) (p54_s0 : Int) : Int × fx_U :=
  fx_lc (f_X8_read u b30 b34 x2 v42 p54_s0) fun v54 u54 => fx_ls (fx_pt u54 a0 1 0) fun u60 => (if v54 < 0 then (v54, u60) else fx_lq (f_X7_rowOf u60 b39 x1) fun b76 => fx_ls (f_X8_writeTo u60 b30 b76 v42) fun u86 => (v54, u86))
def f_X11_row (u : fx_U) (a0 : Nat) (x1 : Int) (x2 : Int) : Int × fx_U :=
  fx_lt (u a0 1) fun q_1v => fx_lt (f_X11_isIn u x1 0 2) fun v3 => (if v3 = 0 then ((-1), u) else fx_lt (f_X11_isIn u x2 1 120) fun v13 => (if v13 = 0 then ((-1), u) else (if q_1v < x2 then ((-1), u) else fx_lr (u a0 2) fun b30 => fx_lr (u a0 0) fun b34 => fx_lr (u a0 5) fun b39 => fx_lt (u b39 0) fun v42 => (if x1 = 0 then kJ_X11_row_54 u b30 b34 x2 v42 a0 b39 x1 1 else kJ_X11_row_54 u b30 b34 x2 v42 a0 b39 x1 0))))
def kB_X11_old_28 (rec28 : (Int → fx_U → Int × fx_U)) (x2 : Int) (q_1b : Nat) (x3 : Int) (p28_4 : Int) (w28 : fx_U) : Int × fx_U :=
  (if x2 < p28_4 then (1, w28) else fx_lr (w28 q_1b 4) fun b38 => fx_ls (fx_pt w28 b38 p28_4.toNat x3) fun u44 => fx_lt (p28_4 + 1) fun v45 => rec28 v45 u44)
def kL_X11_old_28 (x2 : Int) (q_1b : Nat) (x3 : Int) : Nat → Int → fx_U → Int × fx_U
  | 0, _, _ => (0, fun _ _ => 0)
  | n + 1, p28_4, w28 => kB_X11_old_28 (kL_X11_old_28 x2 q_1b x3 n) x2 q_1b x3 p28_4 w28
def f_X11_old (u : fx_U) (a0 : Nat) (x1 : Int) (x2 : Int) (x3 : Int) : Int × fx_U :=
  fx_lr (u a0 5) fun q_1b => fx_lt (u q_1b 0) fun q_2v => fx_lt (f_X7_isStretch u q_1b x1 x2) fun v6 => (if v6 = 0 then (0, u) else fx_lt (f_X11_isIn u x3 (-100) 99) fun v17 => (if v17 = 0 then (0, u) else kL_X11_old_28 x2 q_1b x3 (Int.toNat (64 - x1) + 1) x1 u))
def kB_X11_putOnTape_3 (rec3 : (Int → fx_U → Int → fx_U)) (a0 : Nat) (x1 : Int) (p3_2 : Int) (w3 : fx_U) (F3 : Int) : fx_U :=
  (if p3_2 < 0 then w3 else (if F3 < 260 then fx_lr (w3 a0 0) fun b18 => fx_lt (fx_b_ushr x1 p3_2) fun v27 => fx_lt (fx_b_and v27 255) fun v31 => fx_ls (fx_pt w3 b18 F3.toNat v31) fun u32 => fx_lt (F3 + 1) fun v39 => fx_ls (fx_pt u32 a0 1 v39) fun u40 => fx_lt (p3_2 + (-8)) fun v43 => rec3 v43 u40 v39 else w3))
def kL_X11_putOnTape_3 (a0 : Nat) (x1 : Int) : Nat → Int → fx_U → Int → fx_U
  | 0, _, _, _ => (fun _ _ => 0)
  | n + 1, p3_2, w3, F3 => kB_X11_putOnTape_3 (kL_X11_putOnTape_3 a0 x1 n) a0 x1 p3_2 w3 F3
def f_X11_putOnTape (u : fx_U) (a0 : Nat) (x1 : Int) : fx_U :=
  fx_lt (u a0 1) fun q_1v => kL_X11_putOnTape_3 a0 x1 (Int.toNat (24 - (-8)) + 1) 24 u q_1v
def f_X11_feed (u : fx_U) (a0 : Nat) (x1 : Int) (x2 : Int) (x3 : Int) (x4 : Int) (x5 : Int) : Int × fx_U :=
  fx_lt (u a0 1) fun q_1v => (if 240 < q_1v then ((-1), u) else fx_ls (f_X11_putOnTape u a0 x1) fun u14 => fx_lt (u14 a0 1) fun t14 => fx_ls (f_X11_putOnTape u14 a0 x2) fun u19 => fx_lt (u19 a0 1) fun t19 => fx_ls (f_X11_putOnTape u19 a0 x3) fun u24 => fx_lt (u24 a0 1) fun t24 => fx_ls (f_X11_putOnTape u24 a0 x4) fun u30 => fx_lt (u30 a0 1) fun t30 => fx_ls (f_X11_putOnTape u30 a0 x5) fun u36 => fx_lt (u36 a0 1) fun t36 => (t36, u36))
def f_X11_law (u : fx_U) (a0 : Nat) (x1 : Int) : Int × fx_U :=
  fx_lt (u a0 1) fun q_1v => fx_lt (f_X11_isIn u x1 1 240) fun v5 => (if v5 = 0 then ((-1), u) else (if q_1v < x1 then ((-1), u) else fx_lr (u a0 3) fun b22 => fx_lr (u a0 0) fun b26 => fx_lc (f_X4_read u b22 b26 x1) fun v30 u30 => fx_ls (fx_pt u30 a0 1 0) fun u36 => (if v30 = 0 then fx_lr (u36 a0 4) fun b46 => fx_lr (u36 b22 4) fun b55 => fx_ls (fx_pt u36 a0 4 (b55 : Nat)) fun u58 => fx_ls (fx_pt u58 b22 4 (b46 : Nat)) fun u66 => fx_lt (u66 b55 0) fun v73 => (v73, u66) else (v30, u36))))
def kJ_X11_party_54 (a0 : Nat) (x1 : Int) (x2 : Int) (x3 : Int) (w54 : fx_U) : Int × fx_U :=
  fx_lr (w54 a0 5) fun b55 => fx_lr (w54 b55 9) fun b58 => fx_ls (fx_pt w54 b58 x1.toNat x2) fun u63 => fx_lr (u63 b55 12) fun b68 => fx_ls (fx_pt u63 b68 x1.toNat x3) fun u73 => (1, u73)
def f_X11_party (u : fx_U) (a0 : Nat) (x1 : Int) (x2 : Int) (x3 : Int) : Int × fx_U :=
  fx_lt (f_X11_isIn u x1 0 1) fun v3 => (if v3 = 0 then (0, u) else fx_lt (f_X11_isIn u x3 (-20) 20) fun v14 => (if v14 = 0 then (0, u) else (if x2 = 0 then fx_lr (u a0 5) fun b27 => fx_lr (u b27 10) fun b30 => fx_lt (u b30 x1.toNat) fun v34 => (if v34 < 0 then kJ_X11_party_54 a0 x1 x2 x3 u else fx_ls (f_X7_makeBare u b27 v34) fun u51 => kJ_X11_party_54 a0 x1 x2 x3 u51) else kJ_X11_party_54 a0 x1 x2 x3 u)))
def f_X11_car (u : fx_U) (a0 : Nat) (x1 : Int) (x2 : Int) (x3 : Int) : Int × fx_U :=
  fx_lt (f_X11_isIn u x1 0 11) fun v4 => (if v4 = 0 then (0, u) else fx_lt (f_X11_isIn u x2 0 1) fun v13 => (if v13 = 0 then (0, u) else fx_lt (f_X11_isIn u x3 0 9999) fun v24 => (if v24 = 0 then (0, u) else fx_lr (u a0 5) fun b33 => fx_lr (u b33 13) fun b36 => fx_ls (fx_pt u b36 x1.toNat x2) fun u41 => fx_lr (u41 b33 14) fun b46 => fx_ls (fx_pt u41 b46 x1.toNat x3) fun u51 => (1, u51))))
def f_X11_cones (u : fx_U) (a0 : Nat) (x1 : Int) : Int × fx_U :=
  fx_lt (f_X11_isIn u x1 0 64) fun v4 => (if v4 = 0 then (0, u) else fx_lr (u a0 5) fun b13 => fx_ls (fx_pt u b13 15 x1) fun u17 => (1, u17))
def f_X11_dew (u : fx_U) (a0 : Nat) (x1 : Int) : Int × fx_U :=
  fx_lt (f_X11_isIn u x1 (-1) 9999) fun v5 => (if v5 = 0 then (0, u) else fx_lr (u a0 5) fun b14 => fx_ls (fx_pt u b14 16 x1) fun u18 => (1, u18))
def kJ_X11_burns_40 (w19 : fx_U) (b1 : Nat) (p19_4 : Int) (rec19 : (Int → Int → fx_U → Int × fx_U)) (p40_3 : Int) : Int × fx_U :=
  fx_ls (f_X7_makeBare w19 b1 p19_4) fun u46 => fx_lt (p19_4 + 1) fun v49 => rec19 p40_3 v49 u46
def kB_X11_burns_19 (rec19 : (Int → Int → fx_U → Int × fx_U)) (x2 : Int) (b1 : Nat) (p19_3 : Int) (p19_4 : Int) (w19 : fx_U) : Int × fx_U :=
  (if x2 < p19_4 then (p19_3, w19) else fx_lt (f_X7_isPainted w19 b1 p19_4) fun v31 => (if v31 = 0 then kJ_X11_burns_40 w19 b1 p19_4 rec19 p19_3 else fx_lt (fx_b_add p19_3 1) fun v37 => kJ_X11_burns_40 w19 b1 p19_4 rec19 v37))
def kL_X11_burns_19 (x2 : Int) (b1 : Nat) : Nat → Int → Int → fx_U → Int × fx_U
  | 0, _, _, _ => (0, fun _ _ => 0)
  | n + 1, p19_3, p19_4, w19 => kB_X11_burns_19 (kL_X11_burns_19 x2 b1 n) x2 b1 p19_3 p19_4 w19
def f_X11_burns (u : fx_U) (a0 : Nat) (x1 : Int) (x2 : Int) : Int × fx_U :=
  fx_lr (u a0 5) fun b1 => fx_lt (f_X7_isStretch u b1 x1 x2) fun v6 => (if v6 = 0 then ((-1), u) else kL_X11_burns_19 x2 b1 (Int.toNat (64 - x1) + 1) 0 x1 u)
def f_X11_minutes (u : fx_U) (a0 : Nat) (x1 : Int) : Int × fx_U :=
  fx_lt (f_X11_isIn u x1 1 600) fun v5 => (if v5 = 0 then ((-1), u) else fx_lr (u a0 5) fun b14 => fx_lr (u a0 4) fun b18 => fx_lc (f_X5_pass u b14 b18 x1) fun v22 u22 => (v22, u22))
def f_X11_tried (u : fx_U) (a0 : Nat) (x1 : Int) (x2 : Int) : Int × fx_U :=
  fx_lr (u a0 7) fun q_1b => fx_lr (u a0 5) fun q_2b => fx_lr (u q_2b 1) fun q_3b => fx_lr (u q_2b 2) fun q_4b => fx_lr (u q_2b 3) fun q_5b => fx_lt (f_X11_isIn u x1 1 600) fun v5 => (if v5 = 0 then ((-1), u) else fx_lt (f_X11_isIn u x2 0 6) fun v15 => (if v15 = 0 then ((-1), u) else fx_ls (f_X7_copyFrom u q_1b q_2b) fun u31 => fx_lr (u31 a0 4) fun b39 => fx_lc (f_X5_pass u31 q_1b b39 x1) fun v43 u43 => (if x2 = 0 then fx_lt (f_X7_paintedDots u43 q_1b) fun v92 => (v92, u43) else (if x2 = 1 then fx_lt (f_X7_spoiltDots u43 q_1b) fun v100 => (v100, u43) else (if x2 = 2 then fx_lt (f_X7_wetDots u43 q_1b) fun v108 => (v108, u43) else (if x2 = 3 then fx_lt (f_X7_paintedDots u43 q_1b) fun v116 => fx_lt (u43 q_1b 0) fun v123 => (if v116 = v123 then fx_lt (f_X7_wetDots u43 q_1b) fun v133 => (if v133 = 0 then (1, u43) else (0, u43)) else (0, u43)) else (if x2 = 4 then fx_lr (u43 q_1b 10) fun b149 => fx_lt (u43 b149 (Int.toNat 0)) fun v153 => (v153, u43) else (if x2 = 5 then fx_lr (u43 q_1b 10) fun b159 => fx_lt (u43 b159 (Int.toNat 1)) fun v163 => (v163, u43) else fx_lt (f_X7_offKerb u43 q_1b) fun v169 => (v169, u43)))))))))
def f_X11_who (u : fx_U) (a0 : Nat) (x1 : Int) : Int × fx_U :=
  fx_lt (f_X11_isIn u x1 0 2) fun v3 => (if v3 = 0 then ((-1), u) else fx_lr (u a0 11) fun b12 => fx_lr (u a0 5) fun b16 => fx_ls (f_X0_suspect u b12 b16) fun u19 => (if x1 = 0 then fx_lt (u19 b12 1) fun v52 => (v52, u19) else (if x1 = 1 then fx_lt (u19 b12 2) fun v60 => (v60, u19) else fx_lt (u19 b12 3) fun v68 => (v68, u19))))
def f_X11_keep (u : fx_U) (a0 : Nat) : Int × fx_U :=
  fx_lr (u a0 5) fun q_1b => fx_lr (u a0 6) fun q_2b => fx_ls (f_X7_copyFrom u q_2b q_1b) fun u8 => fx_ls (fx_pt u8 a0 8 1) fun u13 => fx_lt (f_X7_paintedDots u13 q_1b) fun v20 => (v20, u13)
def f_X11_undo (u : fx_U) (a0 : Nat) : Int × fx_U :=
  fx_lt (u a0 8) fun q_1v => fx_lr (u a0 5) fun q_2b => fx_lr (u a0 6) fun q_3b => (if q_1v = 0 then (0, u) else fx_ls (f_X7_copyFrom u q_2b q_3b) fun u17 => (1, u17))
def f_X12_in (u : fx_U) (x0 : Int) (x1 : Int) (x2 : Int) : Int :=
  (if x0 < x1 then 0 else (if x2 < x0 then 0 else 1))
def f_X12_min (u : fx_U) (x0 : Int) (x1 : Int) : Int :=
  (if x0 < x1 then x0 else x1)
def f_X12_max (u : fx_U) (x0 : Int) (x1 : Int) : Int :=
  (if x1 < x0 then x0 else x1)
def f_X12_size (u : fx_U) (x0 : Int) : Int :=
  (if x0 < 0 then fx_lt (fx_b_neg x0) fun v5 => v5 else x0)
def f_X12_wrongAt (u : fx_U) (a0 : Nat) (x1 : Int) (x2 : Int) : Int × fx_U :=
  fx_lt (fx_b_mul (-1000) x1) fun v5 => fx_lt (fx_b_sub v5 x2) fun v7 => fx_ls (fx_pt u a0 7 v7) fun u8 => (0, u8)
def f_X12_factOf (u : fx_U) (x0 : Int) : Int :=
  (if x0 = 97 then 7 else (if x0 = 98 then (-1) else (if x0 = 99 then 6 else (if x0 = 100 then (-1) else (if x0 = 101 then (-1) else (if x0 = 102 then (-1) else (if x0 = 103 then (-1) else (if x0 = 104 then 3 else (if x0 = 105 then 0 else (if x0 = 106 then (-1) else (if x0 = 107 then 2 else (if x0 = 108 then (-1) else (if x0 = 109 then (-1) else (if x0 = 110 then 1 else (if x0 = 111 then (-1) else (if x0 = 112 then (-1) else (if x0 = 113 then (-1) else (if x0 = 114 then 8 else (if x0 = 115 then (-1) else (if x0 = 116 then 5 else (if x0 = 117 then (-1) else (if x0 = 118 then (-1) else (if x0 = 119 then 4 else (-1))))))))))))))))))))))))
def f_X12_sumSign (u : fx_U) (x0 : Int) : Int :=
  (if x0 = 43 then 2 else (if x0 = 45 then 3 else (if x0 = 42 then 4 else (if x0 = 47 then 5 else (if x0 = 37 then 6 else (-1))))))
def f_X12_isClause (u : fx_U) (x0 : Int) : Int :=
  (if x0 = 112 then 1 else (if x0 = 100 then 1 else (if x0 = 115 then 1 else (if x0 = 111 then 1 else (if x0 = 108 then 1 else 0)))))
def f_X12_reckon (u : fx_U) (x0 : Int) (x1 : Int) (x2 : Int) : Int :=
  (if x0 = 2 then fx_lt (fx_b_add x1 x2) fun v46 => v46 else (if x0 = 3 then fx_lt (fx_b_sub x1 x2) fun v50 => v50 else (if x0 = 4 then fx_lt (fx_b_mul x1 x2) fun v54 => v54 else (if x0 = 5 then fx_lt (fx_b_div x1 x2) fun v58 => v58 else (if x0 = 6 then fx_lt (fx_b_rem x1 x2) fun v62 => v62 else (if x0 = 7 then (if x1 < x2 then 1 else 0) else (if x0 = 8 then (if x2 < x1 then 1 else 0) else (if x1 = x2 then 1 else 0))))))))
def kJ_X12_comesTo_230 (rec16 : (Int → Int → fx_U → Int × fx_U)) (p230_3 : Int) (p230_5 : Int) (w230 : fx_U) : Int × fx_U :=
  rec16 p230_3 p230_5 w230
def kJ_X12_comesTo_85 (w16 : fx_U) (q_1b : Nat) (p16_3 : Int) (rec16 : (Int → Int → fx_U → Int × fx_U)) (v49 : Int) (p85_s0 : Int) : Int × fx_U :=
  fx_ls (fx_pt w16 q_1b p16_3.toNat p85_s0) fun u85 => fx_lt (p16_3 + 1) fun v88 => kJ_X12_comesTo_230 rec16 v88 v49 u85
def kJ_X12_comesTo_63 (v31 : Int) (w16 : fx_U) (q_1b : Nat) (p16_3 : Int) (rec16 : (Int → Int → fx_U → Int × fx_U)) (v49 : Int) (v43 : Int) (a0 : Nat) : Int × fx_U :=
  (if v31 = 0 then kJ_X12_comesTo_85 w16 q_1b p16_3 rec16 v49 v43 else fx_lr (w16 a0 28) fun b79 => fx_lt (w16 b79 v43.toNat) fun v84 => kJ_X12_comesTo_85 w16 q_1b p16_3 rec16 v49 v84)
def kJ_X12_comesTo_155 (v142 : Int) (v10 : Int) (v43 : Int) (rec16 : (Int → Int → fx_U → Int × fx_U)) (p16_3 : Int) (w16 : fx_U) (v141 : Int) (v49 : Int) (p155_s0 : Int) : Int × fx_U :=
  (if v142 = p155_s0 then fx_lt (v10 + v43) fun v162 => kJ_X12_comesTo_230 rec16 p16_3 v162 w16 else kJ_X12_comesTo_230 rec16 v141 v49 w16)
def kJ_X12_comesTo_135 (p16_3 : Int) (w16 : fx_U) (q_1b : Nat) (v31 : Int) (v10 : Int) (v43 : Int) (rec16 : (Int → Int → fx_U → Int × fx_U)) (v49 : Int) : Int × fx_U :=
  fx_lt (p16_3 - 1) fun v141 => fx_lt (w16 q_1b v141.toNat) fun v142 => (if v31 = 12 then kJ_X12_comesTo_155 v142 v10 v43 rec16 p16_3 w16 v141 v49 1 else kJ_X12_comesTo_155 v142 v10 v43 rec16 p16_3 w16 v141 v49 0)
def kJ_X12_comesTo_203 (v177 : Int) (w16 : fx_U) (q_1b : Nat) (v31 : Int) (rec16 : (Int → Int → fx_U → Int × fx_U)) (v49 : Int) : Int × fx_U :=
  fx_lt (v177 - 1) fun v209 => fx_lt (w16 q_1b v209.toNat) fun v219 => fx_lt (w16 q_1b v177.toNat) fun v225 => fx_lt (f_X12_reckon w16 v31 v219 v225) fun v226 => fx_ls (fx_pt w16 q_1b v209.toNat v226) fun u229 => kJ_X12_comesTo_230 rec16 v177 v49 u229
def kJ_X12_comesTo_192 (w16 : fx_U) (q_1b : Nat) (v177 : Int) (v31 : Int) (rec16 : (Int → Int → fx_U → Int × fx_U)) (v49 : Int) : Int × fx_U :=
  fx_lt (w16 q_1b v177.toNat) fun v197 => (if v197 = 0 then (0, w16) else kJ_X12_comesTo_203 v177 w16 q_1b v31 rec16 v49)
def kB_X12_comesTo_16 (rec16 : (Int → Int → fx_U → Int × fx_U)) (x2 : Int) (bc : Nat) (q_1b : Nat) (a0 : Nat) (v10 : Int) (p16_3 : Int) (p16_5 : Int) (w16 : fx_U) : Int × fx_U :=
  (if p16_5 < x2 then fx_lt (w16 bc p16_5.toNat) fun v28 => fx_lt (v28 / 1048576) fun v31 => fx_lt (v28 % 1048576) fun v43 => fx_lt (p16_5 + 1) fun v49 => (if v31 = 0 then kJ_X12_comesTo_63 v31 w16 q_1b p16_3 rec16 v49 v43 a0 else (if v31 = 1 then kJ_X12_comesTo_63 v31 w16 q_1b p16_3 rec16 v49 v43 a0 else (if v31 = 10 then fx_lt (p16_3 - 1) fun v106 => fx_lt (w16 q_1b v106.toNat) fun v115 => fx_lt (fx_b_sub 1 v115) fun v116 => fx_ls (fx_pt w16 q_1b v106.toNat v116) fun u117 => kJ_X12_comesTo_230 rec16 p16_3 v49 u117 else (if v31 = 11 then kJ_X12_comesTo_135 p16_3 w16 q_1b v31 v10 v43 rec16 v49 else (if v31 = 12 then kJ_X12_comesTo_135 p16_3 w16 q_1b v31 v10 v43 rec16 v49 else fx_lt (p16_3 - 1) fun v177 => (if v31 = 5 then kJ_X12_comesTo_192 w16 q_1b v177 v31 rec16 v49 else (if v31 = 6 then kJ_X12_comesTo_192 w16 q_1b v177 v31 rec16 v49 else kJ_X12_comesTo_203 v177 w16 q_1b v31 rec16 v49))))))) else fx_lt (w16 q_1b (Int.toNat 0)) fun v238 => (v238, w16))
def kL_X12_comesTo_16 (x2 : Int) (bc : Nat) (q_1b : Nat) (a0 : Nat) (v10 : Int) : Nat → Int → Int → fx_U → Int × fx_U
  | 0, _, _, _ => (0, fun _ _ => 0)
  | n + 1, p16_3, p16_5, w16 => kB_X12_comesTo_16 (kL_X12_comesTo_16 x2 bc q_1b a0 v10 n) x2 bc q_1b a0 v10 p16_3 p16_5 w16
def f_X12_comesTo (u : fx_U) (a0 : Nat) (x1 : Int) (x2 : Int) : Int × fx_U :=
  fx_lr (u a0 27) fun q_1b => fx_lr (u a0 21) fun bc => fx_lt (x1 / 260) fun v9 => fx_lt (260 * v9) fun v10 => kL_X12_comesTo_16 x2 bc q_1b a0 v10 (Int.toNat (260 - x1) + 1) 0 x1 u
def kJ_X12_byLaw_91 (p3_4 : Int) (rec3 : (Int → fx_U → Int × fx_U)) (w91 : fx_U) : Int × fx_U :=
  fx_lt (p3_4 + 1) fun v91 => rec3 v91 w91
def kB_X12_byLaw_3 (rec3 : (Int → fx_U → Int × fx_U)) (nc : Int) (a0 : Nat) (x1 : Int) (bh : Nat) (bt : Nat) (bf : Nat) (x2 : Int) (x3 : Int) (p3_4 : Int) (w3 : fx_U) : Int × fx_U :=
  (if p3_4 < nc then fx_lr (w3 a0 22) fun b13 => fx_lt (w3 b13 p3_4.toNat) fun v18 => (if v18 = x1 then fx_lt (w3 bh p3_4.toNat) fun v30 => fx_lt (w3 bt p3_4.toNat) fun v37 => fx_lc (f_X12_comesTo w3 a0 v30 v37) fun v38 u38 => (if v38 = 1 then fx_lt (u38 bf p3_4.toNat) fun v55 => fx_lc (f_X12_comesTo u38 a0 v55 v30) fun v63 u63 => (if v63 < x2 then (x2, u63) else (if x3 < v63 then (x3, u63) else (v63, u63))) else kJ_X12_byLaw_91 p3_4 rec3 u38) else kJ_X12_byLaw_91 p3_4 rec3 w3) else (x2, w3))
def kL_X12_byLaw_3 (nc : Int) (a0 : Nat) (x1 : Int) (bh : Nat) (bt : Nat) (bf : Nat) (x2 : Int) (x3 : Int) : Nat → Int → fx_U → Int × fx_U
  | 0, _, _ => (0, fun _ _ => 0)
  | n + 1, p3_4, w3 => kB_X12_byLaw_3 (kL_X12_byLaw_3 nc a0 x1 bh bt bf x2 x3 n) nc a0 x1 bh bt bf x2 x3 p3_4 w3
def f_X12_byLaw (u : fx_U) (a0 : Nat) (x1 : Int) (x2 : Int) (x3 : Int) : Int × fx_U :=
  fx_lr (u a0 21) fun bc => fx_lr (u a0 23) fun bf => fx_lr (u a0 24) fun bh => fx_lr (u a0 25) fun bt => fx_lt (u a0 13) fun nc => kL_X12_byLaw_3 nc a0 x1 bh bt bf x2 x3 (Int.toNat (16 - 0) + 1) 0 u
def kB_X12_copies_100_101_2 (rec2 : (Int → fx_U → fx_U)) (a0 : Nat) (a1 : Nat) (p2_2 : Int) (w2 : fx_U) : fx_U :=
  (if p2_2 < 549 then fx_lt (w2 a0 p2_2.toNat) fun v13 => fx_ls (fx_pt w2 a1 p2_2.toNat v13) fun u14 => fx_lt (p2_2 + 1) fun v15 => rec2 v15 u14 else w2)
def kL_X12_copies_100_101_2 (a0 : Nat) (a1 : Nat) : Nat → Int → fx_U → fx_U
  | 0, _, _ => (fun _ _ => 0)
  | n + 1, p2_2, w2 => kB_X12_copies_100_101_2 (kL_X12_copies_100_101_2 a0 a1 n) a0 a1 p2_2 w2
def f_X12_copies_100_101 (u : fx_U) (a0 : Nat) (a1 : Nat) : fx_U :=
  kL_X12_copies_100_101_2 a0 a1 (Int.toNat (549 - 0) + 1) 0 u
def kB_X12_copies_100_102_2 (rec2 : (Int → fx_U → fx_U)) (a0 : Nat) (a1 : Nat) (p2_2 : Int) (w2 : fx_U) : fx_U :=
  (if p2_2 < 549 then fx_lt (w2 a0 p2_2.toNat) fun v13 => fx_ls (fx_pt w2 a1 p2_2.toNat v13) fun u14 => fx_lt (p2_2 + 1) fun v15 => rec2 v15 u14 else w2)
def kL_X12_copies_100_102_2 (a0 : Nat) (a1 : Nat) : Nat → Int → fx_U → fx_U
  | 0, _, _ => (fun _ _ => 0)
  | n + 1, p2_2, w2 => kB_X12_copies_100_102_2 (kL_X12_copies_100_102_2 a0 a1 n) a0 a1 p2_2 w2
def f_X12_copies_100_102 (u : fx_U) (a0 : Nat) (a1 : Nat) : fx_U :=
  kL_X12_copies_100_102_2 a0 a1 (Int.toNat (549 - 0) + 1) 0 u
def kB_X12_copies_101_100_2 (rec2 : (Int → fx_U → fx_U)) (a0 : Nat) (a1 : Nat) (p2_2 : Int) (w2 : fx_U) : fx_U :=
  (if p2_2 < 549 then fx_lt (w2 a0 p2_2.toNat) fun v13 => fx_ls (fx_pt w2 a1 p2_2.toNat v13) fun u14 => fx_lt (p2_2 + 1) fun v15 => rec2 v15 u14 else w2)
def kL_X12_copies_101_100_2 (a0 : Nat) (a1 : Nat) : Nat → Int → fx_U → fx_U
  | 0, _, _ => (fun _ _ => 0)
  | n + 1, p2_2, w2 => kB_X12_copies_101_100_2 (kL_X12_copies_101_100_2 a0 a1 n) a0 a1 p2_2 w2
def f_X12_copies_101_100 (u : fx_U) (a0 : Nat) (a1 : Nat) : fx_U :=
  kL_X12_copies_101_100_2 a0 a1 (Int.toNat (549 - 0) + 1) 0 u
def kB_X12_copies_102_100_2 (rec2 : (Int → fx_U → fx_U)) (a0 : Nat) (a1 : Nat) (p2_2 : Int) (w2 : fx_U) : fx_U :=
  (if p2_2 < 549 then fx_lt (w2 a0 p2_2.toNat) fun v13 => fx_ls (fx_pt w2 a1 p2_2.toNat v13) fun u14 => fx_lt (p2_2 + 1) fun v15 => rec2 v15 u14 else w2)
def kL_X12_copies_102_100_2 (a0 : Nat) (a1 : Nat) : Nat → Int → fx_U → fx_U
  | 0, _, _ => (fun _ _ => 0)
  | n + 1, p2_2, w2 => kB_X12_copies_102_100_2 (kL_X12_copies_102_100_2 a0 a1 n) a0 a1 p2_2 w2
def f_X12_copies_102_100 (u : fx_U) (a0 : Nat) (a1 : Nat) : fx_U :=
  kL_X12_copies_102_100_2 a0 a1 (Int.toNat (549 - 0) + 1) 0 u
def f_X12_isDot (u : fx_U) (a0 : Nat) (x1 : Int) : Int :=
  fx_lr (u a0 0) fun q_1b => fx_lt (u q_1b (Int.toNat 512)) fun q_2v => (if x1 < 0 then 0 else (if x1 < q_2v then 1 else 0))
def f_X12_has (u : fx_U) (x0 : Int) (x1 : Int) : Int :=
  fx_lt (fx_b_shr x0 x1) fun v2 => fx_lt (fx_b_and v2 1) fun v4 => (if v4 = 1 then 1 else 0)
def f_X12_isPainted (u : fx_U) (a0 : Nat) (x1 : Int) : Int :=
  fx_lr (u a0 0) fun b1 => fx_lt (320 + x1) fun v8 => fx_lt (u b1 v8.toNat) fun v9 => (if v9 < 0 then 0 else 1)
def f_X12_bares (u : fx_U) (a0 : Nat) (x1 : Int) : fx_U :=
  fx_lr (u a0 0) fun q_1b => fx_lt (256 + x1) fun v8 => fx_ls (fx_pt u q_1b v8.toNat (-100)) fun u11 => fx_lt (320 + x1) fun v20 => fx_ls (fx_pt u11 q_1b v20.toNat (-2)) fun u23 => fx_lt (448 + x1) fun v32 => fx_ls (fx_pt u23 q_1b v32.toNat (-2)) fun u35 => u35
def kB_X12_road_85 (rec85 : (Int → fx_U → Int × fx_U)) (q_1b : Nat) (p85_2 : Int) (w85 : fx_U) : Int × fx_U :=
  (if p85_2 < 2 then fx_lt (516 + p85_2) fun v98 => fx_ls (fx_pt w85 q_1b v98.toNat 0) fun u100 => fx_lt (520 + p85_2) fun v109 => fx_ls (fx_pt u100 q_1b v109.toNat (-2)) fun u112 => fx_lt (p85_2 + 1) fun v113 => rec85 v113 u112 else (1, w85))
def kL_X12_road_85 (q_1b : Nat) : Nat → Int → fx_U → Int × fx_U
  | 0, _, _ => (0, fun _ _ => 0)
  | n + 1, p85_2, w85 => kB_X12_road_85 (kL_X12_road_85 q_1b n) q_1b p85_2 w85
def kB_X12_road_24 (rec24 : (Int → fx_U → Int × fx_U)) (q_1b : Nat) (a0 : Nat) (p24_2 : Int) (w24 : fx_U) : Int × fx_U :=
  (if p24_2 < 64 then fx_lt (0 + p24_2) fun v36 => fx_ls (fx_pt w24 q_1b v36.toNat 0) fun u38 => fx_lt (64 + p24_2) fun v46 => fx_ls (fx_pt u38 q_1b v46.toNat 0) fun u48 => fx_lt (128 + p24_2) fun v57 => fx_ls (fx_pt u48 q_1b v57.toNat 0) fun u59 => fx_lt (192 + p24_2) fun v68 => fx_ls (fx_pt u59 q_1b v68.toNat (-100)) fun u71 => fx_ls (f_X12_bares u71 a0 p24_2) fun u74 => fx_lt (p24_2 + 1) fun v77 => rec24 v77 u74 else kL_X12_road_85 q_1b (Int.toNat (2 - 0) + 1) 0 w24)
def kL_X12_road_24 (q_1b : Nat) (a0 : Nat) : Nat → Int → fx_U → Int × fx_U
  | 0, _, _ => (0, fun _ _ => 0)
  | n + 1, p24_2, w24 => kB_X12_road_24 (kL_X12_road_24 q_1b a0 n) q_1b a0 p24_2 w24
def f_X12_road (u : fx_U) (a0 : Nat) (x1 : Int) : Int × fx_U :=
  fx_lr (u a0 0) fun q_1b => fx_lt (f_X12_in u x1 8 64) fun v5 => (if v5 = 0 then (0, u) else fx_ls (fx_pt u q_1b (Int.toNat 512) x1) fun u21 => kL_X12_road_24 q_1b a0 (Int.toNat (64 - 0) + 1) 0 u21)
def kB_X12_old_37 (rec37 : (Int → fx_U → Int × fx_U)) (x2 : Int) (q_1b : Nat) (x3 : Int) (p37_4 : Int) (w37 : fx_U) : Int × fx_U :=
  (if x2 < p37_4 then (1, w37) else fx_lt (192 + p37_4) fun v52 => fx_ls (fx_pt w37 q_1b v52.toNat x3) fun u54 => fx_lt (p37_4 + 1) fun v55 => rec37 v55 u54)
def kL_X12_old_37 (x2 : Int) (q_1b : Nat) (x3 : Int) : Nat → Int → fx_U → Int × fx_U
  | 0, _, _ => (0, fun _ _ => 0)
  | n + 1, p37_4, w37 => kB_X12_old_37 (kL_X12_old_37 x2 q_1b x3 n) x2 q_1b x3 p37_4 w37
def f_X12_old (u : fx_U) (a0 : Nat) (x1 : Int) (x2 : Int) (x3 : Int) : Int × fx_U :=
  fx_lr (u a0 0) fun q_1b => fx_lt (u q_1b (Int.toNat 512)) fun q_2v => fx_lt (f_X12_isDot u a0 x1) fun v2 => (if v2 = 0 then (0, u) else fx_lt (f_X12_isDot u a0 x2) fun v10 => (if v10 = 0 then (0, u) else (if x2 < x1 then (0, u) else fx_lt (f_X12_in u x3 (-100) 99) fun v26 => (if v26 = 0 then (0, u) else kL_X12_old_37 x2 q_1b x3 (Int.toNat (64 - x1) + 1) x1 u))))
def kJ_X12_leaves_36 (q_1b : Nat) (v8 : Int) (w36 : fx_U) : fx_U :=
  fx_ls (fx_pt w36 q_1b v8.toNat (-2)) fun u47 => u47
def f_X12_leaves (u : fx_U) (a0 : Nat) (x1 : Int) : fx_U :=
  fx_lr (u a0 0) fun q_1b => fx_lt (520 + x1) fun v8 => fx_lt (u q_1b v8.toNat) fun v9 => (if v9 = (-2) then kJ_X12_leaves_36 q_1b v8 u else fx_lt (448 + v9) fun v32 => fx_ls (fx_pt u q_1b v32.toNat (-2)) fun u35 => kJ_X12_leaves_36 q_1b v8 u35)
def kJ_X12_party_40 (u : fx_U) (q_1b : Nat) (v30 : Int) (x1 : Int) (x3 : Int) (x2 : Int) (a0 : Nat) (p40_s0 : Int) : Int × fx_U :=
  fx_ls (fx_pt u q_1b v30.toNat p40_s0) fun u40 => fx_lt (518 + x1) fun v49 => fx_ls (fx_pt u40 q_1b v49.toNat x3) fun u51 => (if x2 = 0 then fx_ls (f_X12_leaves u51 a0 x1) fun u58 => (1, u58) else (1, u51))
def f_X12_party (u : fx_U) (a0 : Nat) (x1 : Int) (x2 : Int) (x3 : Int) : Int × fx_U :=
  fx_lr (u a0 0) fun q_1b => fx_lt (f_X12_in u x1 0 1) fun v3 => (if v3 = 0 then (0, u) else fx_lt (f_X12_in u x3 (-20) 20) fun v14 => (if v14 = 0 then (0, u) else fx_lt (516 + x1) fun v30 => (if x2 = 0 then kJ_X12_party_40 u q_1b v30 x1 x3 x2 a0 0 else kJ_X12_party_40 u q_1b v30 x1 x3 x2 a0 1)))
def f_X12_car (u : fx_U) (a0 : Nat) (x1 : Int) (x2 : Int) (x3 : Int) : Int × fx_U :=
  fx_lr (u a0 0) fun q_1b => fx_lt (f_X12_in u x1 0 11) fun v4 => (if v4 = 0 then (0, u) else fx_lt (f_X12_in u x2 0 1) fun v13 => (if v13 = 0 then (0, u) else fx_lt (f_X12_in u x3 0 9999) fun v24 => (if v24 = 0 then (0, u) else fx_lt (u q_1b (Int.toNat 524)) fun v46 => fx_lt (fx_b_shl 1 x1) fun v49 => fx_lt (fx_b_or v46 v49) fun v50 => fx_ls (fx_pt u q_1b (Int.toNat 524) v50) fun u51 => fx_lt (525 + x1) fun v60 => fx_ls (fx_pt u51 q_1b v60.toNat x2) fun u62 => fx_lt (537 + x1) fun v71 => fx_ls (fx_pt u62 q_1b v71.toNat x3) fun u73 => (1, u73))))
def f_X12_cones (u : fx_U) (a0 : Nat) (x1 : Int) : Int × fx_U :=
  fx_lr (u a0 0) fun q_1b => fx_lt (f_X12_in u x1 0 64) fun v4 => (if v4 = 0 then (0, u) else fx_ls (fx_pt u q_1b (Int.toNat 514) x1) fun u20 => (1, u20))
def kJ_X12_dew_31 (u : fx_U) (q_1b : Nat) (p31_s0 : Int) : Int × fx_U :=
  fx_ls (fx_pt u q_1b (Int.toNat 515) p31_s0) fun u31 => (1, u31)
def f_X12_dew (u : fx_U) (a0 : Nat) (x1 : Int) : Int × fx_U :=
  fx_lr (u a0 0) fun q_1b => fx_lt (f_X12_in u x1 (-1) 9999) fun v5 => (if v5 = 0 then (0, u) else (if x1 = (-1) then kJ_X12_dew_31 u q_1b (-2) else kJ_X12_dew_31 u q_1b x1))
def kJ_X12_burns_95 (p60_5 : Int) (rec60 : (Int → fx_U → Int × fx_U)) (w95 : fx_U) : Int × fx_U :=
  fx_lt (p60_5 + 1) fun v95 => rec60 v95 w95
def kB_X12_burns_60 (rec60 : (Int → fx_U → Int × fx_U)) (q_1b : Nat) (p28_4 : Int) (rec28 : (Int → Int → fx_U → Int × fx_U)) (v49 : Int) (p60_5 : Int) (w60 : fx_U) : Int × fx_U :=
  (if p60_5 < 2 then fx_lt (520 + p60_5) fun v75 => fx_lt (w60 q_1b v75.toNat) fun v76 => (if v76 = p28_4 then fx_ls (fx_pt w60 q_1b v75.toNat (-2)) fun u94 => kJ_X12_burns_95 p60_5 rec60 u94 else kJ_X12_burns_95 p60_5 rec60 w60) else fx_lt (p28_4 + 1) fun v101 => rec28 v49 v101 w60)
def kL_X12_burns_60 (q_1b : Nat) (p28_4 : Int) (rec28 : (Int → Int → fx_U → Int × fx_U)) (v49 : Int) : Nat → Int → fx_U → Int × fx_U
  | 0, _, _ => (0, fun _ _ => 0)
  | n + 1, p60_5, w60 => kB_X12_burns_60 (kL_X12_burns_60 q_1b p28_4 rec28 v49 n) q_1b p28_4 rec28 v49 p60_5 w60
def kJ_X12_burns_49 (p28_3 : Int) (w28 : fx_U) (a0 : Nat) (p28_4 : Int) (q_1b : Nat) (rec28 : (Int → Int → fx_U → Int × fx_U)) (p49_s0 : Int) : Int × fx_U :=
  fx_lt (fx_b_add p28_3 p49_s0) fun v49 => fx_ls (f_X12_bares w28 a0 p28_4) fun u54 => kL_X12_burns_60 q_1b p28_4 rec28 v49 (Int.toNat (2 - 0) + 1) 0 u54
def kB_X12_burns_28 (rec28 : (Int → Int → fx_U → Int × fx_U)) (x2 : Int) (a0 : Nat) (q_1b : Nat) (p28_3 : Int) (p28_4 : Int) (w28 : fx_U) : Int × fx_U :=
  (if x2 < p28_4 then (p28_3, w28) else fx_lt (f_X12_isPainted w28 a0 p28_4) fun v38 => (if v38 = 0 then kJ_X12_burns_49 p28_3 w28 a0 p28_4 q_1b rec28 0 else kJ_X12_burns_49 p28_3 w28 a0 p28_4 q_1b rec28 1))
def kL_X12_burns_28 (x2 : Int) (a0 : Nat) (q_1b : Nat) : Nat → Int → Int → fx_U → Int × fx_U
  | 0, _, _, _ => (0, fun _ _ => 0)
  | n + 1, p28_3, p28_4, w28 => kB_X12_burns_28 (kL_X12_burns_28 x2 a0 q_1b n) x2 a0 q_1b p28_3 p28_4 w28
def f_X12_burns (u : fx_U) (a0 : Nat) (x1 : Int) (x2 : Int) : Int × fx_U :=
  fx_lr (u a0 0) fun q_1b => fx_lt (f_X12_isDot u a0 x1) fun v2 => fx_lt (u q_1b (Int.toNat 512)) fun q_2v => (if v2 = 0 then ((-1), u) else fx_lt (f_X12_isDot u a0 x2) fun v10 => (if v10 = 0 then ((-1), u) else (if x2 < x1 then ((-1), u) else kL_X12_burns_28 x2 a0 q_1b (Int.toNat (64 - x1) + 1) 0 x1 u)))
def kJ_X12_feels_134 (u117 : fx_U) (b1 : Nat) (p134_s0 : Int) : fx_U :=
  fx_ls (fx_pt u117 b1 (Int.toNat 8) p134_s0) fun u134 => u134
def kJ_X12_feels_109 (u72 : fx_U) (b1 : Nat) (x3 : Int) (x4 : Int) (p109_s0 : Int) : fx_U :=
  fx_ls (fx_pt u72 b1 (Int.toNat 6) p109_s0) fun u109 => fx_ls (fx_pt u109 b1 (Int.toNat 7) x3) fun u117 => (if x4 = 0 then kJ_X12_feels_134 u117 b1 0 else kJ_X12_feels_134 u117 b1 1)
def f_X12_feels (u : fx_U) (a0 : Nat) (x1 : Int) (x2 : Int) (x3 : Int) (x4 : Int) : fx_U :=
  fx_lr (u a0 28) fun b1 => fx_ls (fx_pt u b1 (Int.toNat 0) x1) fun u6 => fx_lr (u6 a0 0) fun b13 => fx_lt (u6 b13 (Int.toNat 512)) fun v19 => fx_ls (fx_pt u6 b1 (Int.toNat 1) v19) fun u20 => fx_lt (0 + x1) fun v32 => fx_lt (u20 b13 v32.toNat) fun v33 => fx_ls (fx_pt u20 b1 (Int.toNat 2) v33) fun u34 => fx_lt (64 + x1) fun v47 => fx_lt (u34 b13 v47.toNat) fun v48 => fx_ls (fx_pt u34 b1 (Int.toNat 3) v48) fun u49 => fx_lt (128 + x1) fun v63 => fx_lt (u49 b13 v63.toNat) fun v64 => fx_ls (fx_pt u49 b1 (Int.toNat 4) v64) fun u65 => fx_ls (fx_pt u65 b1 (Int.toNat 5) x2) fun u72 => (if x1 = 0 then kJ_X12_feels_109 u72 b1 x3 x4 0 else fx_lt (v32 - 1) fun v103 => fx_lt (u72 b13 v103.toNat) fun v104 => fx_lt (fx_b_sub v33 v104) fun v105 => fx_lt (f_X12_size u72 v105) fun v106 => kJ_X12_feels_109 u72 b1 x3 x4 v106)
def f_X12_paintsFor (u : fx_U) (a0 : Nat) (x1 : Int) (x2 : Int) (x3 : Int) : Int × fx_U :=
  fx_ls (f_X12_feels u a0 x1 x2 x3 0) fun u5 => fx_lc (f_X12_byLaw u5 a0 112 1 9) fun v14 u14 => (v14, u14)
def f_X12_driesFor (u : fx_U) (a0 : Nat) (x1 : Int) (x2 : Int) (x3 : Int) : Int × fx_U :=
  fx_ls (f_X12_feels u a0 x1 x2 x3 0) fun u5 => fx_lc (f_X12_byLaw u5 a0 100 0 99) fun v14 u14 => (v14, u14)
def f_X12_isWet (u : fx_U) (a0 : Nat) (x1 : Int) (x2 : Int) : Int :=
  fx_lt (f_X12_isPainted u a0 x1) fun v2 => (if v2 = 0 then 0 else fx_lr (u a0 0) fun b10 => fx_lt (320 + x1) fun v17 => fx_lt (u b10 v17.toNat) fun v18 => fx_lt (384 + x1) fun v27 => fx_lt (u b10 v27.toNat) fun v28 => fx_lt (fx_b_add v18 v28) fun v29 => (if x2 < v29 then 1 else 0))
def f_X12_isPainting (u : fx_U) (a0 : Nat) (x1 : Int) : Int :=
  fx_lr (u a0 0) fun b1 => fx_lt (u b1 (Int.toNat 520)) fun v7 => (if v7 = x1 then 1 else fx_lt (u b1 (Int.toNat 521)) fun v19 => (if v19 = x1 then 1 else 0))
def kJ_X12_nextOf_78 (p56_2 : Int) (rec56 : (Int → Int)) : Int :=
  fx_lt (p56_2 + (-1)) fun v78 => rec56 v78
def kB_X12_nextOf_56 (rec56 : (Int → Int)) (u : fx_U) (a0 : Nat) (p56_2 : Int) : Int :=
  (if p56_2 < 0 then (-1) else fx_lt (f_X12_isPainted u a0 p56_2) fun v62 => (if v62 = 0 then fx_lt (f_X12_isPainting u a0 p56_2) fun v70 => (if v70 = 0 then p56_2 else kJ_X12_nextOf_78 p56_2 rec56) else kJ_X12_nextOf_78 p56_2 rec56))
def kL_X12_nextOf_56 (u : fx_U) (a0 : Nat) : Nat → Int → Int
  | 0, _ => 0
  | n + 1, p56_2 => kB_X12_nextOf_56 (kL_X12_nextOf_56 u a0 n) u a0 p56_2
def kJ_X12_nextOf_36 (p6_2 : Int) (rec6 : (Int → Int)) : Int :=
  fx_lt (p6_2 + 1) fun v36 => rec6 v36
def kB_X12_nextOf_6 (rec6 : (Int → Int)) (u : fx_U) (a0 : Nat) (p6_2 : Int) : Int :=
  fx_lr (u a0 0) fun b8 => fx_lt (u b8 (Int.toNat 512)) fun v14 => (if p6_2 < v14 then fx_lt (f_X12_isPainted u a0 p6_2) fun v20 => (if v20 = 0 then fx_lt (f_X12_isPainting u a0 p6_2) fun v28 => (if v28 = 0 then p6_2 else kJ_X12_nextOf_36 p6_2 rec6) else kJ_X12_nextOf_36 p6_2 rec6) else (-1))
def kL_X12_nextOf_6 (u : fx_U) (a0 : Nat) : Nat → Int → Int
  | 0, _ => 0
  | n + 1, p6_2 => kB_X12_nextOf_6 (kL_X12_nextOf_6 u a0 n) u a0 p6_2
def f_X12_nextOf (u : fx_U) (a0 : Nat) (x1 : Int) : Int :=
  (if x1 = 0 then kL_X12_nextOf_6 u a0 (Int.toNat (64 - 0) + 1) 0 else fx_lr (u a0 0) fun b46 => fx_lt (u b46 (Int.toNat 512)) fun v52 => fx_lt (v52 - 1) fun v54 => kL_X12_nextOf_56 u a0 (Int.toNat (v54 - (-1)) + 1) v54)
def kJ_X12_busy_39 (p4_2 : Int) (p4_3 : Int) (rec4 : (Int → Int → Int)) (p39_s0 : Int) : Int :=
  fx_lt (fx_b_add p4_2 p39_s0) fun v39 => fx_lt (p4_3 + 1) fun v41 => rec4 v39 v41
def kJ_X12_busy_34 (p4_2 : Int) (p4_3 : Int) (rec4 : (Int → Int → Int)) : Int :=
  kJ_X12_busy_39 p4_2 p4_3 rec4 1
def kB_X12_busy_4 (rec4 : (Int → Int → Int)) (u : fx_U) (a0 : Nat) (x1 : Int) (p4_2 : Int) (p4_3 : Int) : Int :=
  fx_lr (u a0 0) fun b6 => fx_lt (u b6 (Int.toNat 512)) fun v12 => (if p4_3 < v12 then fx_lt (f_X12_isPainting u a0 p4_3) fun v19 => (if v19 = 0 then fx_lt (f_X12_isWet u a0 p4_3 x1) fun v28 => (if v28 = 0 then kJ_X12_busy_39 p4_2 p4_3 rec4 0 else kJ_X12_busy_34 p4_2 p4_3 rec4) else kJ_X12_busy_34 p4_2 p4_3 rec4) else p4_2)
def kL_X12_busy_4 (u : fx_U) (a0 : Nat) (x1 : Int) : Nat → Int → Int → Int
  | 0, _, _ => 0
  | n + 1, p4_2, p4_3 => kB_X12_busy_4 (kL_X12_busy_4 u a0 x1 n) u a0 x1 p4_2 p4_3
def f_X12_busy (u : fx_U) (a0 : Nat) (x1 : Int) : Int :=
  kL_X12_busy_4 u a0 x1 (Int.toNat (64 - 0) + 1) 0 0
def f_X12_held (u : fx_U) (x0 : Int) : Int :=
  fx_lt (f_X12_min u 99 x0) fun v5 => fx_lt (f_X12_max u (-99) v5) fun v8 => v8
def f_X12_beginsWith (u : fx_U) (a0 : Nat) (x1 : Int) : fx_U :=
  fx_lr (u a0 0) fun q_1b => fx_lt (516 + x1) fun v8 => fx_lt (u q_1b v8.toNat) fun v9 => (if v9 = 0 then u else fx_lt (520 + x1) fun v21 => fx_lt (u q_1b v21.toNat) fun v22 => (if v22 = (-2) then fx_lt (f_X12_nextOf u a0 x1) fun v31 => (if v31 = (-1) then fx_ls (fx_pt u q_1b v8.toNat 0) fun u50 => u50 else fx_lt (u q_1b (Int.toNat 513)) fun v60 => fx_lt (f_X12_busy u a0 v60) fun v61 => fx_lt (u q_1b (Int.toNat 514)) fun v71 => (if v61 < v71 then fx_ls (fx_pt u q_1b v21.toNat v31) fun u86 => fx_lt (522 + x1) fun v95 => fx_lt (u86 q_1b (Int.toNat 513)) fun v105 => fx_lc (f_X12_paintsFor u86 a0 v31 v105 x1) fun v107 u107 => fx_ls (fx_pt u107 q_1b v95.toNat v107) fun u110 => u110 else u)) else u))
def f_X12_paintsOn (u : fx_U) (a0 : Nat) (x1 : Int) : fx_U :=
  fx_lr (u a0 0) fun q_1b => fx_lt (520 + x1) fun v8 => fx_lt (u q_1b v8.toNat) fun v9 => (if v9 = (-2) then u else fx_lt (522 + x1) fun v26 => fx_lt (u q_1b v26.toNat) fun v36 => fx_lt (fx_b_sub v36 1) fun v38 => fx_ls (fx_pt u q_1b v26.toNat v38) fun u39 => (if 0 < v38 then u39 else fx_lt (256 + v9) fun v62 => fx_lt (0 + v9) fun v69 => fx_lt (u39 q_1b v69.toNat) fun v70 => fx_lt (518 + x1) fun v79 => fx_lt (u39 q_1b v79.toNat) fun v80 => fx_lt (fx_b_add v70 v80) fun v81 => fx_lt (f_X12_held u39 v81) fun v82 => fx_ls (fx_pt u39 q_1b v62.toNat v82) fun u85 => fx_lt (320 + v9) fun v94 => fx_lt (u85 q_1b (Int.toNat 513)) fun v102 => fx_lt (fx_b_add v102 1) fun v104 => fx_ls (fx_pt u85 q_1b v94.toNat v104) fun u105 => fx_lt (384 + v9) fun v114 => fx_lt (u105 q_1b (Int.toNat 513)) fun v124 => fx_lt (fx_b_add v124 1) fun v126 => fx_lc (f_X12_driesFor u105 a0 v9 v126 x1) fun v128 u128 => fx_ls (fx_pt u128 q_1b v114.toNat v128) fun u131 => fx_ls (fx_pt u131 q_1b v8.toNat (-2)) fun u143 => fx_lt (u143 a0 29) fun v146 => fx_lt (fx_b_add v146 1) fun v150 => fx_ls (fx_pt u143 a0 29 v150) fun u151 => u151))
def kJ_X12_drives_113 (u : fx_U) (q_1b : Nat) (v82 : Int) (x1 : Int) : fx_U :=
  fx_ls (fx_pt u q_1b v82.toNat x1) fun u123 => u123
def kJ_X12_drives_73 (u : fx_U) (q_1b : Nat) (a0 : Nat) (v7 : Int) (x1 : Int) (p73_s0 : Int) : fx_U :=
  fx_lt (448 + p73_s0) fun v82 => fx_lt (u q_1b v82.toNat) fun v83 => (if v83 = (-2) then fx_lt (f_X12_isPainting u a0 p73_s0) fun v91 => (if v91 = 0 then fx_lt (f_X12_isWet u a0 p73_s0 v7) fun v107 => (if v107 = 0 then u else kJ_X12_drives_113 u q_1b v82 x1) else kJ_X12_drives_113 u q_1b v82 x1) else u)
def f_X12_drives (u : fx_U) (a0 : Nat) (x1 : Int) : fx_U :=
  fx_lr (u a0 0) fun q_1b => fx_lt (u q_1b (Int.toNat 513)) fun v7 => fx_lt (537 + x1) fun v16 => fx_lt (u q_1b v16.toNat) fun v17 => fx_lt (fx_b_sub v7 v17) fun v18 => fx_lt (u q_1b (Int.toNat 524)) fun v27 => fx_lt (f_X12_has u v27 x1) fun v29 => (if v29 = 0 then u else fx_lt (f_X12_isDot u a0 v18) fun v37 => fx_lt (u q_1b (Int.toNat 512)) fun q_3v => (if v37 = 0 then u else fx_lt (525 + x1) fun v52 => fx_lt (u q_1b v52.toNat) fun v53 => (if v53 = 0 then kJ_X12_drives_73 u q_1b a0 v7 x1 v18 else fx_lt (q_3v - 1) fun v70 => fx_lt (v70 - v18) fun v72 => kJ_X12_drives_73 u q_1b a0 v7 x1 v72)))
def kJ_X12_minuteGoes_121 (q_1b : Nat) (w121 : fx_U) : fx_U :=
  fx_lt (w121 q_1b (Int.toNat 513)) fun v135 => fx_lt (fx_b_add v135 1) fun v137 => fx_ls (fx_pt w121 q_1b (Int.toNat 513) v137) fun u138 => u138
def kJ_X12_minuteGoes_115 (p60_1 : Int) (rec60 : (Int → fx_U → fx_U)) (w115 : fx_U) : fx_U :=
  fx_lt (p60_1 + 1) fun v115 => rec60 v115 w115
def kB_X12_minuteGoes_60 (rec60 : (Int → fx_U → fx_U)) (q_1b : Nat) (a0 : Nat) (p60_1 : Int) (w60 : fx_U) : fx_U :=
  fx_lt (w60 q_1b (Int.toNat 512)) fun v68 => (if p60_1 < v68 then fx_lt (448 + p60_1) fun v80 => fx_lt (w60 q_1b v80.toNat) fun v81 => (if v81 = (-2) then fx_lt (w60 q_1b (Int.toNat 513)) fun v96 => fx_lt (f_X12_isWet w60 a0 p60_1 v96) fun v97 => (if v97 = 0 then kJ_X12_minuteGoes_115 p60_1 rec60 w60 else fx_ls (fx_pt w60 q_1b v80.toNat 12) fun u114 => kJ_X12_minuteGoes_115 p60_1 rec60 u114) else kJ_X12_minuteGoes_115 p60_1 rec60 w60) else kJ_X12_minuteGoes_121 q_1b w60)
def kL_X12_minuteGoes_60 (q_1b : Nat) (a0 : Nat) : Nat → Int → fx_U → fx_U
  | 0, _, _ => (fun _ _ => 0)
  | n + 1, p60_1, w60 => kB_X12_minuteGoes_60 (kL_X12_minuteGoes_60 q_1b a0 n) q_1b a0 p60_1 w60
def kB_X12_minuteGoes_22 (rec22 : (Int → fx_U → fx_U)) (a0 : Nat) (q_1b : Nat) (p22_1 : Int) (w22 : fx_U) : fx_U :=
  (if p22_1 < 12 then fx_ls (f_X12_drives w22 a0 p22_1) fun u30 => fx_lt (p22_1 + 1) fun v33 => rec22 v33 u30 else fx_lt (w22 q_1b (Int.toNat 515)) fun v46 => fx_lt (w22 q_1b (Int.toNat 513)) fun v54 => (if v46 = v54 then kL_X12_minuteGoes_60 q_1b a0 (Int.toNat (64 - 0) + 1) 0 w22 else kJ_X12_minuteGoes_121 q_1b w22))
def kL_X12_minuteGoes_22 (a0 : Nat) (q_1b : Nat) : Nat → Int → fx_U → fx_U
  | 0, _, _ => (fun _ _ => 0)
  | n + 1, p22_1, w22 => kB_X12_minuteGoes_22 (kL_X12_minuteGoes_22 a0 q_1b n) a0 q_1b p22_1 w22
def f_X12_minuteGoes (u : fx_U) (a0 : Nat) : fx_U :=
  fx_lr (u a0 0) fun q_1b => fx_ls (f_X12_beginsWith u a0 0) fun u2 => fx_ls (f_X12_beginsWith u2 a0 1) fun u7 => fx_ls (f_X12_paintsOn u7 a0 0) fun u12 => fx_ls (f_X12_paintsOn u12 a0 1) fun u17 => kL_X12_minuteGoes_22 a0 q_1b (Int.toNat (12 - 0) + 1) 0 u17
def kB_X12_minutesGo_7 (rec7 : (Int → fx_U → fx_U)) (x1 : Int) (q_1b : Nat) (a0 : Nat) (p7_2 : Int) (w7 : fx_U) : fx_U :=
  (if p7_2 < x1 then fx_lt (w7 q_1b (Int.toNat 513)) fun v19 => (if v19 < 9999 then fx_ls (f_X12_minuteGoes w7 a0) fun u27 => fx_lt (p7_2 + 1) fun v30 => rec7 v30 u27 else w7) else w7)
def kL_X12_minutesGo_7 (x1 : Int) (q_1b : Nat) (a0 : Nat) : Nat → Int → fx_U → fx_U
  | 0, _, _ => (fun _ _ => 0)
  | n + 1, p7_2, w7 => kB_X12_minutesGo_7 (kL_X12_minutesGo_7 x1 q_1b a0 n) x1 q_1b a0 p7_2 w7
def f_X12_minutesGo (u : fx_U) (a0 : Nat) (x1 : Int) : fx_U :=
  fx_lr (u a0 0) fun q_1b => fx_ls (fx_pt u a0 29 0) fun u2 => kL_X12_minutesGo_7 x1 q_1b a0 (Int.toNat (600 - 0) + 1) 0 u2
def f_X12_minutes (u : fx_U) (a0 : Nat) (x1 : Int) : Int × fx_U :=
  fx_lr (u a0 0) fun q_1b => fx_lt (f_X12_in u x1 1 600) fun v5 => (if v5 = 0 then ((-1), u) else fx_ls (f_X12_minutesGo u a0 x1) fun u15 => fx_lt (u15 a0 29) fun v19 => (v19, u15))
def kJ_X12_paintedAll_30 (p4_1 : Int) (p4_2 : Int) (rec4 : (Int → Int → Int)) (p30_s0 : Int) : Int :=
  fx_lt (fx_b_add p4_1 p30_s0) fun v30 => fx_lt (p4_2 + 1) fun v32 => rec4 v30 v32
def kB_X12_paintedAll_4 (rec4 : (Int → Int → Int)) (u : fx_U) (a0 : Nat) (p4_1 : Int) (p4_2 : Int) : Int :=
  fx_lr (u a0 0) fun b6 => fx_lt (u b6 (Int.toNat 512)) fun v12 => (if p4_2 < v12 then fx_lt (f_X12_isPainted u a0 p4_2) fun v19 => (if v19 = 0 then kJ_X12_paintedAll_30 p4_1 p4_2 rec4 0 else kJ_X12_paintedAll_30 p4_1 p4_2 rec4 1) else p4_1)
def kL_X12_paintedAll_4 (u : fx_U) (a0 : Nat) : Nat → Int → Int → Int
  | 0, _, _ => 0
  | n + 1, p4_1, p4_2 => kB_X12_paintedAll_4 (kL_X12_paintedAll_4 u a0 n) u a0 p4_1 p4_2
def f_X12_paintedAll (u : fx_U) (a0 : Nat) : Int :=
  kL_X12_paintedAll_4 u a0 (Int.toNat (64 - 0) + 1) 0 0
def kJ_X12_spoiltAll_37 (p4_1 : Int) (p4_2 : Int) (rec4 : (Int → Int → Int)) (p37_s0 : Int) : Int :=
  fx_lt (fx_b_add p4_1 p37_s0) fun v37 => fx_lt (p4_2 + 1) fun v39 => rec4 v37 v39
def kB_X12_spoiltAll_4 (rec4 : (Int → Int → Int)) (u : fx_U) (a0 : Nat) (p4_1 : Int) (p4_2 : Int) : Int :=
  fx_lr (u a0 0) fun b6 => fx_lt (u b6 (Int.toNat 512)) fun v12 => (if p4_2 < v12 then fx_lt (448 + p4_2) fun v25 => fx_lt (u b6 v25.toNat) fun v26 => (if v26 = (-2) then kJ_X12_spoiltAll_37 p4_1 p4_2 rec4 0 else kJ_X12_spoiltAll_37 p4_1 p4_2 rec4 1) else p4_1)
def kL_X12_spoiltAll_4 (u : fx_U) (a0 : Nat) : Nat → Int → Int → Int
  | 0, _, _ => 0
  | n + 1, p4_1, p4_2 => kB_X12_spoiltAll_4 (kL_X12_spoiltAll_4 u a0 n) u a0 p4_1 p4_2
def f_X12_spoiltAll (u : fx_U) (a0 : Nat) : Int :=
  kL_X12_spoiltAll_4 u a0 (Int.toNat (64 - 0) + 1) 0 0
def kJ_X12_wetAll_38 (p4_1 : Int) (p4_2 : Int) (rec4 : (Int → Int → Int)) (p38_s0 : Int) : Int :=
  fx_lt (fx_b_add p4_1 p38_s0) fun v38 => fx_lt (p4_2 + 1) fun v40 => rec4 v38 v40
def kB_X12_wetAll_4 (rec4 : (Int → Int → Int)) (u : fx_U) (a0 : Nat) (p4_1 : Int) (p4_2 : Int) : Int :=
  fx_lr (u a0 0) fun b6 => fx_lt (u b6 (Int.toNat 512)) fun v12 => (if p4_2 < v12 then fx_lt (u b6 (Int.toNat 513)) fun v26 => fx_lt (f_X12_isWet u a0 p4_2 v26) fun v27 => (if v27 = 0 then kJ_X12_wetAll_38 p4_1 p4_2 rec4 0 else kJ_X12_wetAll_38 p4_1 p4_2 rec4 1) else p4_1)
def kL_X12_wetAll_4 (u : fx_U) (a0 : Nat) : Nat → Int → Int → Int
  | 0, _, _ => 0
  | n + 1, p4_1, p4_2 => kB_X12_wetAll_4 (kL_X12_wetAll_4 u a0 n) u a0 p4_1 p4_2
def f_X12_wetAll (u : fx_U) (a0 : Nat) : Int :=
  kL_X12_wetAll_4 u a0 (Int.toNat (64 - 0) + 1) 0 0
def kJ_X12_offAll_51 (p4_1 : Int) (p4_2 : Int) (rec4 : (Int → Int → Int)) (p51_s0 : Int) : Int :=
  fx_lt (fx_b_add p4_1 p51_s0) fun v51 => fx_lt (p4_2 + 1) fun v53 => rec4 v51 v53
def kB_X12_offAll_4 (rec4 : (Int → Int → Int)) (u : fx_U) (a0 : Nat) (p4_1 : Int) (p4_2 : Int) : Int :=
  fx_lr (u a0 0) fun b6 => fx_lt (u b6 (Int.toNat 512)) fun v12 => (if p4_2 < v12 then fx_lt (f_X12_isPainted u a0 p4_2) fun v19 => (if v19 = 0 then kJ_X12_offAll_51 p4_1 p4_2 rec4 0 else fx_lt (256 + p4_2) fun v33 => fx_lt (u b6 v33.toNat) fun v34 => fx_lt (0 + p4_2) fun v41 => fx_lt (u b6 v41.toNat) fun v42 => fx_lt (fx_b_sub v34 v42) fun v43 => fx_lt (f_X12_size u v43) fun v44 => kJ_X12_offAll_51 p4_1 p4_2 rec4 v44) else p4_1)
def kL_X12_offAll_4 (u : fx_U) (a0 : Nat) : Nat → Int → Int → Int
  | 0, _, _ => 0
  | n + 1, p4_1, p4_2 => kB_X12_offAll_4 (kL_X12_offAll_4 u a0 n) u a0 p4_1 p4_2
def f_X12_offAll (u : fx_U) (a0 : Nat) : Int :=
  kL_X12_offAll_4 u a0 (Int.toNat (64 - 0) + 1) 0 0
def kJ_X12_couldBe_120 (p2_3 : Int) (rec2 : (Int → Int)) : Int :=
  fx_lt (p2_3 + 1) fun v120 => rec2 v120
def kJ_X12_couldBe_95 (p2_3 : Int) (u : fx_U) (b4 : Nat) (rec2 : (Int → Int)) (p95_s0 : Int) : Int :=
  fx_lt (448 + p2_3) fun v107 => fx_lt (u b4 v107.toNat) fun v108 => fx_lt (f_X12_in u v108 0 11) fun v112 => (if p95_s0 = v112 then kJ_X12_couldBe_120 p2_3 rec2 else 0)
def kJ_X12_couldBe_94 (p2_3 : Int) (u : fx_U) (b4 : Nat) (rec2 : (Int → Int)) : Int :=
  kJ_X12_couldBe_95 p2_3 u b4 rec2 0
def kJ_X12_couldBe_46 (x1 : Int) (p2_3 : Int) (u : fx_U) (b4 : Nat) (rec2 : (Int → Int)) (p46_s0 : Int) : Int :=
  fx_lt (fx_b_add x1 p46_s0) fun v46 => fx_lt (320 + p2_3) fun v59 => fx_lt (u b4 v59.toNat) fun v60 => (if v46 < v60 then kJ_X12_couldBe_94 p2_3 u b4 rec2 else fx_lt (384 + p2_3) fun v84 => fx_lt (u b4 v84.toNat) fun v85 => fx_lt (fx_b_add v60 v85) fun v86 => (if v46 < v86 then kJ_X12_couldBe_95 p2_3 u b4 rec2 1 else kJ_X12_couldBe_94 p2_3 u b4 rec2))
def kB_X12_couldBe_2 (rec2 : (Int → Int)) (u : fx_U) (a0 : Nat) (x2 : Int) (x1 : Int) (p2_3 : Int) : Int :=
  fx_lr (u a0 0) fun b4 => fx_lt (u b4 (Int.toNat 512)) fun v10 => (if p2_3 < v10 then fx_lt (f_X12_isPainted u a0 p2_3) fun v16 => (if v16 = 0 then kJ_X12_couldBe_120 p2_3 rec2 else (if x2 = 0 then kJ_X12_couldBe_46 x1 p2_3 u b4 rec2 p2_3 else fx_lt (v10 - 1) fun v43 => fx_lt (v43 - p2_3) fun v45 => kJ_X12_couldBe_46 x1 p2_3 u b4 rec2 v45)) else 1)
def kL_X12_couldBe_2 (u : fx_U) (a0 : Nat) (x2 : Int) (x1 : Int) : Nat → Int → Int
  | 0, _ => 0
  | n + 1, p2_3 => kB_X12_couldBe_2 (kL_X12_couldBe_2 u a0 x2 x1 n) u a0 x2 x1 p2_3
def f_X12_couldBe (u : fx_U) (a0 : Nat) (x1 : Int) (x2 : Int) : Int :=
  kL_X12_couldBe_2 u a0 x2 x1 (Int.toNat (64 - 0) + 1) 0
def kJ_X12_who_68 (p18_4 : Int) (rec18 : (Int → Int → Int → Int)) (p68_2 : Int) (p68_3 : Int) : Int :=
  fx_lt (p18_4 + 1) fun v68 => rec18 p68_2 p68_3 v68
def kJ_X12_who_63 (p18_2 : Int) (p18_4 : Int) (rec18 : (Int → Int → Int → Int)) (p63_s0 : Int) : Int :=
  fx_lt (fx_b_add p18_2 1) fun v66 => kJ_X12_who_68 p18_4 rec18 v66 p63_s0
def kB_X12_who_18 (rec18 : (Int → Int → Int → Int)) (u : fx_U) (a0 : Nat) (x1 : Int) (p18_2 : Int) (p18_3 : Int) (p18_4 : Int) : Int :=
  fx_lr (u a0 0) fun b22 => fx_lt (u b22 (Int.toNat 513)) fun v28 => fx_lt (fx_b_mul 2 v28) fun v29 => fx_lt (fx_b_add v29 2) fun v31 => (if p18_4 < v31 then fx_lt (p18_4 / 2) fun v39 => fx_lt (p18_4 % 2) fun v43 => fx_lt (f_X12_couldBe u a0 v39 v43) fun v44 => (if v44 = 0 then kJ_X12_who_68 p18_4 rec18 p18_2 p18_3 else (if p18_2 = 0 then kJ_X12_who_63 p18_2 p18_4 rec18 p18_4 else kJ_X12_who_63 p18_2 p18_4 rec18 p18_3)) else (if x1 = 0 then p18_2 else (if p18_3 = (-1) then (-2) else (if x1 = 1 then fx_lt (p18_3 / 2) fun v99 => v99 else fx_lt (p18_3 % 2) fun v105 => v105))))
def kL_X12_who_18 (u : fx_U) (a0 : Nat) (x1 : Int) : Nat → Int → Int → Int → Int
  | 0, _, _, _ => 0
  | n + 1, p18_2, p18_3, p18_4 => kB_X12_who_18 (kL_X12_who_18 u a0 x1 n) u a0 x1 p18_2 p18_3 p18_4
def f_X12_who (u : fx_U) (a0 : Nat) (x1 : Int) : Int :=
  fx_lt (f_X12_in u x1 0 2) fun v3 => (if v3 = 0 then (-1) else kL_X12_who_18 u a0 x1 (Int.toNat (2147483647 - 0) + 1) 0 (-1) 0)
def kB_X12_types_2 (rec2 : (Int → fx_U → Int → fx_U)) (a0 : Nat) (x1 : Int) (p2_2 : Int) (w2 : fx_U) (F2 : Int) : fx_U :=
  (if p2_2 < 0 then w2 else fx_lr (w2 a0 3) fun b7 => fx_lt (8 * p2_2) fun v18 => fx_lt (fx_b_shr x1 v18) fun v19 => fx_lt (fx_b_i2b v19) fun v20 => fx_ls (fx_pt w2 b7 F2.toNat (fx_b_i2b v20)) fun u21 => fx_lt (F2 + 1) fun v28 => fx_ls (fx_pt u21 a0 4 v28) fun u29 => fx_lt (p2_2 + (-1)) fun v32 => rec2 v32 u29 v28)
def kL_X12_types_2 (a0 : Nat) (x1 : Int) : Nat → Int → fx_U → Int → fx_U
  | 0, _, _, _ => (fun _ _ => 0)
  | n + 1, p2_2, w2, F2 => kB_X12_types_2 (kL_X12_types_2 a0 x1 n) a0 x1 p2_2 w2 F2
def f_X12_types (u : fx_U) (a0 : Nat) (x1 : Int) : fx_U :=
  fx_lt (u a0 4) fun t => kL_X12_types_2 a0 x1 (Int.toNat (3 - (-1)) + 1) 3 u t
def f_X12_feed (u : fx_U) (a0 : Nat) (x1 : Int) (x2 : Int) (x3 : Int) (x4 : Int) (x5 : Int) : Int × fx_U :=
  fx_lt (u a0 4) fun q_1v => fx_lt (q_1v + 20) fun v6 => (if 260 < v6 then ((-1), u) else fx_ls (f_X12_types u a0 x1) fun u17 => fx_lt (u17 a0 4) fun t17 => fx_ls (f_X12_types u17 a0 x2) fun u22 => fx_lt (u22 a0 4) fun t22 => fx_ls (f_X12_types u22 a0 x3) fun u27 => fx_lt (u27 a0 4) fun t27 => fx_ls (f_X12_types u27 a0 x4) fun u33 => fx_lt (u33 a0 4) fun t33 => fx_ls (f_X12_types u33 a0 x5) fun u39 => fx_lt (u39 a0 4) fun t39 => (t39, u39))
def f_X12_here (u : fx_U) (a0 : Nat) : Int :=
  fx_lt (u a0 5) fun q_1v => fx_lt (u a0 6) fun q_2v => fx_lr (u a0 3) fun q_3b => (if q_1v < q_2v then fx_lt (u q_3b q_1v.toNat) fun v19 => fx_lt (fx_b_and v19 255) fun v23 => v23 else (-1))
def f_X12_isDigit (u : fx_U) (a0 : Nat) : Int :=
  fx_lt (u a0 5) fun q_1v => fx_lt (f_X12_here u a0) fun v1 => (if v1 < 48 then 0 else fx_lt (f_X12_here u a0) fun v10 => (if 57 < v10 then 0 else 1))
def f_X12_takes (u : fx_U) (a0 : Nat) (x1 : Int) : Int × fx_U :=
  fx_lt (u a0 5) fun q_1v => fx_lt (f_X12_here u a0) fun v1 => (if v1 = x1 then fx_lt (q_1v + 1) fun v24 => fx_ls (fx_pt u a0 5 v24) fun u25 => (1, u25) else fx_lc (f_X12_wrongAt u a0 1 q_1v) fun v14 u14 => (v14, u14))
def kB_X12_readsTwo_27 (rec27 : (fx_U → Int → Int → Int × fx_U)) (a0 : Nat) (q_1v : Int) (w27 : fx_U) (F27 : Int) (G27 : Int) : Int × fx_U :=
  fx_lt (f_X12_isDigit w27 a0) fun v28 => (if v28 = 0 then (1, w27) else fx_lt (q_1v + 2) fun v40 => (if F27 < v40 then fx_lt (10 * G27) fun v51 => fx_lt (f_X12_here w27 a0) fun v53 => fx_lt (v51 + v53) fun v56 => fx_lt (v56 - 48) fun v59 => fx_ls (fx_pt w27 a0 8 v59) fun u60 => fx_lt (F27 + 1) fun v69 => fx_ls (fx_pt u60 a0 5 v69) fun u70 => rec27 u70 v69 v59 else (1, w27)))
def kL_X12_readsTwo_27 (a0 : Nat) (q_1v : Int) : Nat → fx_U → Int → Int → Int × fx_U
  | 0, _, _, _ => (0, fun _ _ => 0)
  | n + 1, w27, F27, G27 => kB_X12_readsTwo_27 (kL_X12_readsTwo_27 a0 q_1v n) a0 q_1v w27 F27 G27
def f_X12_readsTwo (u : fx_U) (a0 : Nat) : Int × fx_U :=
  fx_lt (u a0 5) fun q_1v => fx_lt (f_X12_isDigit u a0) fun v6 => (if v6 = 0 then fx_lc (f_X12_wrongAt u a0 1 q_1v) fun v18 u18 => (v18, u18) else fx_ls (fx_pt u a0 8 0) fun u24 => kL_X12_readsTwo_27 a0 q_1v (Int.toNat (260 - q_1v) + 1) u24 q_1v 0)
def kB_X12_readsValue_183 (rec183 : (Int → fx_U → Int → Int → Int × fx_U)) (p154_6 : Int) (a0 : Nat) (p88_s0 : Int) (p183_7 : Int) (w183 : fx_U) (F183 : Int) (G183 : Int) : Int × fx_U :=
  (if p183_7 < p154_6 then fx_lr (w183 a0 26) fun b191 => fx_lt (G183 + p183_7) fun v200 => fx_ls (fx_pt w183 b191 v200.toNat p88_s0) fun u203 => fx_lt (p183_7 + 1) fun v204 => rec183 v204 u203 F183 G183 else fx_lt (G183 + p154_6) fun v217 => fx_ls (fx_pt w183 a0 14 v217) fun u218 => (1, u218))
def kL_X12_readsValue_183 (p154_6 : Int) (a0 : Nat) (p88_s0 : Int) : Nat → Int → fx_U → Int → Int → Int × fx_U
  | 0, _, _, _, _ => (0, fun _ _ => 0)
  | n + 1, p183_7, w183, F183, G183 => kB_X12_readsValue_183 (kL_X12_readsValue_183 p154_6 a0 p88_s0 n) p154_6 a0 p88_s0 p183_7 w183 F183 G183
def kJ_X12_readsValue_154 (a0 : Nat) (q_1v : Int) (p88_s0 : Int) (p154_6 : Int) (w154 : fx_U) (F154 : Int) : Int × fx_U :=
  fx_lt (w154 a0 14) fun v155 => fx_lt (v155 + p154_6) fun v160 => fx_lr (w154 a0 0) fun b162 => fx_lt (w154 b162 (Int.toNat 512)) fun v168 => (if v168 < v160 then fx_lc (f_X12_wrongAt w154 a0 6 q_1v) fun v176 u176 => (v176, u176) else kL_X12_readsValue_183 p154_6 a0 p88_s0 (Int.toNat (64 - 0) + 1) 0 w154 F154 v155)
def kJ_X12_readsValue_88 (u45 : fx_U) (a0 : Nat) (q_1v : Int) (p88_s0 : Int) (F88 : Int) : Int × fx_U :=
  fx_lt (f_X12_here u45 a0) fun v94 => (if v94 = 42 then fx_lt (F88 + 1) fun v108 => fx_ls (fx_pt u45 a0 5 v108) fun u109 => fx_lc (f_X12_readsTwo u109 a0) fun v119 u119 => fx_lt (u119 a0 5) fun y119 => (if v119 = 0 then (0, u119) else fx_lt (u119 a0 8) fun n119 => fx_lt (f_X12_in u119 n119 2 64) fun v134 => (if v134 = 0 then fx_lc (f_X12_wrongAt u119 a0 3 v108) fun v144 u144 => (v144, u144) else kJ_X12_readsValue_154 a0 q_1v p88_s0 n119 u119 y119)) else kJ_X12_readsValue_154 a0 q_1v p88_s0 1 u45 F88)
def kJ_X12_readsValue_72 (p23_s0 : Int) (u45 : fx_U) (a0 : Nat) (q_1v : Int) (n45 : Int) (F72 : Int) : Int × fx_U :=
  (if p23_s0 = 0 then kJ_X12_readsValue_88 u45 a0 q_1v n45 F72 else fx_lt (-n45) fun v80 => kJ_X12_readsValue_88 u45 a0 q_1v v80 F72)
def kJ_X12_readsValue_38 (a0 : Nat) (p23_s0 : Int) (q_1v : Int) (w38 : fx_U) (F38 : Int) : Int × fx_U :=
  fx_lc (f_X12_readsTwo w38 a0) fun v45 u45 => fx_lt (u45 a0 5) fun y45 => (if v45 = 0 then (0, u45) else fx_lt (u45 a0 8) fun n45 => (if p23_s0 = 0 then kJ_X12_readsValue_72 p23_s0 u45 a0 q_1v n45 y45 else (if n45 = 0 then fx_lc (f_X12_wrongAt u45 a0 1 F38) fun v68 u68 => (v68, u68) else kJ_X12_readsValue_72 p23_s0 u45 a0 q_1v n45 y45)))
def kJ_X12_readsValue_23 (a0 : Nat) (q_1v : Int) (u : fx_U) (p23_s0 : Int) : Int × fx_U :=
  (if p23_s0 = 0 then kJ_X12_readsValue_38 a0 p23_s0 q_1v u q_1v else fx_lt (q_1v + 1) fun v34 => fx_ls (fx_pt u a0 5 v34) fun u35 => kJ_X12_readsValue_38 a0 p23_s0 q_1v u35 v34)
def kJ_X12_readsValue_22 (a0 : Nat) (q_1v : Int) (u : fx_U) : Int × fx_U :=
  kJ_X12_readsValue_23 a0 q_1v u 0
def f_X12_readsValue (u : fx_U) (a0 : Nat) (x1 : Int) : Int × fx_U :=
  fx_lt (u a0 5) fun q_1v => (if x1 = 0 then kJ_X12_readsValue_22 a0 q_1v u else fx_lt (f_X12_here u a0) fun v10 => (if v10 = 45 then kJ_X12_readsValue_23 a0 q_1v u 1 else kJ_X12_readsValue_22 a0 q_1v u))
def kB_X12_row_142 (rec142 : (Int → Int → fx_U → Int × fx_U)) (q_4v : Int) (x1 : Int) (a0 : Nat) (q_3b : Nat) (p142_4 : Int) (p142_5 : Int) (w142 : fx_U) : Int × fx_U :=
  (if p142_5 < q_4v then fx_lt (64 * x1) fun v162 => fx_lt (v162 + p142_5) fun v165 => fx_lr (w142 a0 26) fun b167 => fx_lt (w142 b167 p142_5.toNat) fun v172 => fx_ls (fx_pt w142 q_3b v165.toNat v172) fun u173 => fx_lt (f_X12_size u173 v172) fun v183 => fx_lt (fx_b_add p142_4 v183) fun v186 => fx_lt (p142_5 + 1) fun v189 => rec142 v186 v189 u173 else (p142_4, w142))
def kL_X12_row_142 (q_4v : Int) (x1 : Int) (a0 : Nat) (q_3b : Nat) : Nat → Int → Int → fx_U → Int × fx_U
  | 0, _, _, _ => (0, fun _ _ => 0)
  | n + 1, p142_4, p142_5, w142 => kB_X12_row_142 (kL_X12_row_142 q_4v x1 a0 q_3b n) q_4v x1 a0 q_3b p142_4 p142_5 w142
def kJ_X12_row_122 (w58 : fx_U) (a0 : Nat) (p58_3 : Int) (q_4v : Int) (x1 : Int) (q_3b : Nat) : Int × fx_U :=
  fx_ls (fx_pt w58 a0 4 0) fun u124 => (if p58_3 = 0 then fx_lt (u124 a0 7) fun v132 => (v132, u124) else kL_X12_row_142 q_4v x1 a0 q_3b (Int.toNat (64 - 0) + 1) 0 0 u124)
def kJ_X12_row_118 (rec58 : (Int → fx_U → Int → Int × fx_U)) (p118_s0 : Int) (w118 : fx_U) (F118 : Int) : Int × fx_U :=
  rec58 p118_s0 w118 F118
def kJ_X12_row_117 (rec58 : (Int → fx_U → Int → Int × fx_U)) (w117 : fx_U) (F117 : Int) : Int × fx_U :=
  kJ_X12_row_118 rec58 0 w117 F117
def kJ_X12_row_107 (u91 : fx_U) (a0 : Nat) (rec58 : (Int → fx_U → Int → Int × fx_U)) (p107_s0 : Int) : Int × fx_U :=
  fx_lc (f_X12_readsValue u91 a0 p107_s0) fun v107 u107 => fx_lt (u107 a0 5) fun y107 => (if v107 = 0 then kJ_X12_row_117 rec58 u107 y107 else kJ_X12_row_118 rec58 1 u107 y107)
def kJ_X12_row_88 (w58 : fx_U) (a0 : Nat) (rec58 : (Int → fx_U → Int → Int × fx_U)) (x1 : Int) : Int × fx_U :=
  fx_lc (f_X12_takes w58 a0 44) fun v91 u91 => fx_lt (u91 a0 5) fun y91 => (if v91 = 0 then kJ_X12_row_117 rec58 u91 y91 else (if x1 = 0 then kJ_X12_row_107 u91 a0 rec58 1 else kJ_X12_row_107 u91 a0 rec58 0))
def kB_X12_row_58 (rec58 : (Int → fx_U → Int → Int × fx_U)) (a0 : Nat) (q_4v : Int) (x1 : Int) (q_3b : Nat) (p58_3 : Int) (w58 : fx_U) (F58 : Int) : Int × fx_U :=
  (if p58_3 = 0 then kJ_X12_row_122 w58 a0 p58_3 q_4v x1 q_3b else fx_lt (w58 a0 6) fun v67 => (if F58 < v67 then kJ_X12_row_88 w58 a0 rec58 x1 else fx_lt (w58 a0 14) fun v74 => (if v74 < q_4v then kJ_X12_row_88 w58 a0 rec58 x1 else kJ_X12_row_122 w58 a0 p58_3 q_4v x1 q_3b)))
def kL_X12_row_58 (a0 : Nat) (q_4v : Int) (x1 : Int) (q_3b : Nat) : Nat → Int → fx_U → Int → Int × fx_U
  | 0, _, _, _ => (0, fun _ _ => 0)
  | n + 1, p58_3, w58, F58 => kB_X12_row_58 (kL_X12_row_58 a0 q_4v x1 q_3b n) a0 q_4v x1 q_3b p58_3 w58 F58
def kJ_X12_row_54 (u41 : fx_U) (a0 : Nat) (q_4v : Int) (x1 : Int) (q_3b : Nat) (p54_s0 : Int) : Int × fx_U :=
  fx_lc (f_X12_readsValue u41 a0 p54_s0) fun v54 u54 => fx_lt (u54 a0 5) fun y54 => kL_X12_row_58 a0 q_4v x1 q_3b (Int.toNat (2 * (260 - y54) + v54) + 1) v54 u54 y54
def f_X12_row (u : fx_U) (a0 : Nat) (x1 : Int) (x2 : Int) : Int × fx_U :=
  fx_lt (u a0 5) fun q_1v => fx_lt (u a0 4) fun q_2v => fx_lr (u a0 0) fun q_3b => fx_lt (u q_3b (Int.toNat 512)) fun q_4v => fx_lt (f_X12_in u x1 0 2) fun v3 => (if v3 = 0 then ((-1), u) else fx_lt (f_X12_in u x2 1 120) fun v13 => (if v13 = 0 then ((-1), u) else (if q_2v < x2 then ((-1), u) else fx_ls (fx_pt u a0 5 0) fun u31 => fx_ls (fx_pt u31 a0 6 x2) fun u36 => fx_ls (fx_pt u36 a0 14 0) fun u41 => (if x1 = 0 then kJ_X12_row_54 u41 a0 q_4v x1 q_3b 1 else kJ_X12_row_54 u41 a0 q_4v x1 q_3b 0))))
def f_X12_notes (u : fx_U) (a0 : Nat) (x1 : Int) (x2 : Int) : fx_U :=
  fx_lr (u a0 15) fun bs => fx_lt (u a0 10) fun cq => fx_lt (1048576 * x1) fun v11 => fx_lt (v11 + x2) fun v13 => fx_ls (fx_pt u bs cq.toNat v13) fun u14 => fx_lt (cq + 1) fun v21 => fx_ls (fx_pt u14 a0 10 v21) fun u22 => u22
def f_X12_opens (u : fx_U) (a0 : Nat) (x1 : Int) : Int × fx_U :=
  fx_lr (u a0 16) fun bw => fx_lt (u a0 11) fun wq => fx_lt (u a0 5) fun pq => fx_lt (u a0 9) fun v1 => (if v1 = 6 then fx_lc (f_X12_wrongAt u a0 5 pq) fun v15 u15 => (v15, u15) else fx_lt (fx_b_add v1 1) fun v25 => fx_ls (fx_pt u a0 9 v25) fun u26 => fx_lt (1048576 * x1) fun v40 => fx_ls (fx_pt u26 bw wq.toNat v40) fun u41 => fx_lt (wq + 1) fun v48 => fx_ls (fx_pt u41 a0 11 v48) fun u49 => fx_lt (pq + 1) fun v58 => fx_ls (fx_pt u49 a0 5 v58) fun u59 => (1, u59))
def f_X12_waitTop (u : fx_U) (a0 : Nat) : Int :=
  fx_lr (u a0 16) fun bw => fx_lt (u a0 11) fun wq => (if wq = 0 then (-1) else fx_lt (wq - 1) fun v20 => fx_lt (u bw v20.toNat) fun v21 => fx_lt (v21 / 1048576) fun v24 => v24)
def kB_X12_hasOpenSum_2 (rec2 : (Int → Int)) (wq : Int) (u : fx_U) (bw : Nat) (p2_2 : Int) : Int :=
  (if p2_2 < wq then fx_lt (u bw p2_2.toNat) fun v15 => fx_lt (v15 / 1048576) fun v18 => (if v18 = 14 then 1 else fx_lt (p2_2 + 1) fun v26 => rec2 v26) else 0)
def kL_X12_hasOpenSum_2 (wq : Int) (u : fx_U) (bw : Nat) : Nat → Int → Int
  | 0, _ => 0
  | n + 1, p2_2 => kB_X12_hasOpenSum_2 (kL_X12_hasOpenSum_2 wq u bw n) wq u bw p2_2
def f_X12_hasOpenSum (u : fx_U) (a0 : Nat) (x1 : Int) : Int :=
  fx_lr (u a0 16) fun bw => fx_lt (u a0 11) fun wq => kL_X12_hasOpenSum_2 wq u bw (Int.toNat (260 - x1) + 1) x1
def kJ_X12_closesSums_37 (w0 : fx_U) (a0 : Nat) (wq0 : Int) (rec0 : (fx_U → Int → Int → Int → fx_U)) (pq : Int) : fx_U :=
  fx_lt (f_X12_waitTop w0 a0) fun v39 => fx_ls (f_X12_notes w0 a0 v39 0) fun u43 => fx_lt (u43 a0 10) fun c1_43 => fx_lt (wq0 - 1) fun v52 => fx_ls (fx_pt u43 a0 11 v52) fun u53 => rec0 u53 c1_43 v52 pq
def kJ_X12_closesSums_17 (x1 : Int) (w0 : fx_U) (a0 : Nat) (wq0 : Int) (rec0 : (fx_U → Int → Int → Int → fx_U)) (pq : Int) : fx_U :=
  (if x1 = 0 then w0 else fx_lt (f_X12_waitTop w0 a0) fun v22 => (if v22 = 2 then kJ_X12_closesSums_37 w0 a0 wq0 rec0 pq else fx_lt (f_X12_waitTop w0 a0) fun v30 => (if v30 = 3 then kJ_X12_closesSums_37 w0 a0 wq0 rec0 pq else w0)))
def kB_X12_closesSums_0 (rec0 : (fx_U → Int → Int → Int → fx_U)) (a0 : Nat) (x1 : Int) (pq : Int) (w0 : fx_U) (cq0 : Int) (wq0 : Int) (pq0 : Int) : fx_U :=
  fx_lt (f_X12_waitTop w0 a0) fun v1 => (if v1 < 4 then kJ_X12_closesSums_17 x1 w0 a0 wq0 rec0 pq else fx_lt (f_X12_waitTop w0 a0) fun v9 => (if 6 < v9 then kJ_X12_closesSums_17 x1 w0 a0 wq0 rec0 pq else kJ_X12_closesSums_37 w0 a0 wq0 rec0 pq))
def kL_X12_closesSums_0 (a0 : Nat) (x1 : Int) (pq : Int) : Nat → fx_U → Int → Int → Int → fx_U
  | 0, _, _, _, _ => (fun _ _ => 0)
  | n + 1, w0, cq0, wq0, pq0 => kB_X12_closesSums_0 (kL_X12_closesSums_0 a0 x1 pq n) a0 x1 pq w0 cq0 wq0 pq0
def f_X12_closesSums (u : fx_U) (a0 : Nat) (x1 : Int) : fx_U :=
  fx_lr (u a0 15) fun bs => fx_lr (u a0 16) fun bw => fx_lt (u a0 5) fun pq => fx_lt (u a0 10) fun cq => fx_lt (u a0 11) fun wq => kL_X12_closesSums_0 a0 x1 pq (Int.toNat wq + 1) u cq wq pq
def kB_X12_readsNumber_10 (rec10 : (fx_U → Int → Int → Int × fx_U)) (a0 : Nat) (q_1v : Int) (w10 : fx_U) (F10 : Int) (G10 : Int) : Int × fx_U :=
  fx_lt (f_X12_isDigit w10 a0) fun v11 => (if v11 = 0 then (1, w10) else fx_lt (q_1v + 5) fun v23 => (if F10 = v23 then fx_lc (f_X12_wrongAt w10 a0 2 F10) fun v33 u33 => (v33, u33) else fx_lt (10 * G10) fun v44 => fx_lt (f_X12_here w10 a0) fun v46 => fx_lt (v44 + v46) fun v49 => fx_lt (v49 - 48) fun v52 => fx_ls (fx_pt w10 a0 8 v52) fun u53 => fx_lt (F10 + 1) fun v62 => fx_ls (fx_pt u53 a0 5 v62) fun u63 => rec10 u63 v62 v52))
def kL_X12_readsNumber_10 (a0 : Nat) (q_1v : Int) : Nat → fx_U → Int → Int → Int × fx_U
  | 0, _, _, _ => (0, fun _ _ => 0)
  | n + 1, w10, F10, G10 => kB_X12_readsNumber_10 (kL_X12_readsNumber_10 a0 q_1v n) a0 q_1v w10 F10 G10
def f_X12_readsNumber (u : fx_U) (a0 : Nat) : Int × fx_U :=
  fx_lt (u a0 5) fun q_1v => fx_lr (u a0 3) fun q_2b => fx_ls (fx_pt u a0 8 0) fun u7 => kL_X12_readsNumber_10 a0 q_1v (Int.toNat (260 - q_1v) + 1) u7 q_1v 0
def kB_X12_readsFactor_0 (rec0 : (fx_U → Int → Int → Int → Int × fx_U)) (a0 : Nat) (w0 : fx_U) (cq0 : Int) (wq0 : Int) (pq0 : Int) : Int × fx_U :=
  fx_lt (f_X12_here w0 a0) fun v1 => (if v1 = 91 then fx_lc (f_X12_opens w0 a0 14) fun v12 u12 => (if v12 = 0 then (0, u12) else fx_lt (u12 a0 11) fun w1_12 => fx_lt (u12 a0 5) fun p1_12 => rec0 u12 cq0 w1_12 p1_12) else fx_lt (f_X12_isDigit w0 a0) fun v21 => (if v21 = 0 then fx_lt (f_X12_here w0 a0) fun v48 => fx_lt (f_X12_factOf w0 v48) fun v51 => (if v51 = (-1) then fx_lc (f_X12_wrongAt w0 a0 1 pq0) fun v66 u66 => (v66, u66) else fx_ls (f_X12_notes w0 a0 1 v51) fun u73 => fx_lt (u73 a0 10) fun c1_73 => fx_lt (pq0 + 1) fun v82 => fx_ls (fx_pt u73 a0 5 v82) fun u83 => (1, u83)) else fx_lc (f_X12_readsNumber w0 a0) fun v28 u28 => (if v28 = 0 then (0, u28) else fx_lt (u28 a0 5) fun y28 => fx_lt (u28 a0 8) fun n28 => fx_ls (f_X12_notes u28 a0 0 n28) fun u42 => fx_lt (u42 a0 10) fun c1_42 => (1, u42))))
def kL_X12_readsFactor_0 (a0 : Nat) : Nat → fx_U → Int → Int → Int → Int × fx_U
  | 0, _, _, _, _ => (0, fun _ _ => 0)
  | n + 1, w0, cq0, wq0, pq0 => kB_X12_readsFactor_0 (kL_X12_readsFactor_0 a0 n) a0 w0 cq0 wq0 pq0
def f_X12_readsFactor (u : fx_U) (a0 : Nat) : Int × fx_U :=
  fx_lr (u a0 15) fun bs => fx_lr (u a0 16) fun bw => fx_lt (u a0 10) fun cq => fx_lt (u a0 11) fun wq => fx_lt (u a0 5) fun pq => kL_X12_readsFactor_0 a0 (Int.toNat (260 - pq) + 1) u cq wq pq
def kJ_X12_readsSum_163 (rec14 : (fx_U → Int → Int → Int → Int × fx_U)) (w163 : fx_U) (cq163 : Int) (wq163 : Int) (pq163 : Int) : Int × fx_U :=
  rec14 w163 cq163 wq163 pq163
def kJ_X12_readsSum_138 (w14 : fx_U) (a0 : Nat) (wq : Int) (pq14 : Int) : Int × fx_U :=
  fx_lt (f_X12_hasOpenSum w14 a0 wq) fun v140 => (if v140 = 0 then fx_ls (f_X12_closesSums w14 a0 1) fun u158 => fx_lt (u158 a0 10) fun c2_158 => fx_lt (u158 a0 11) fun w2_158 => (1, u158) else fx_lc (f_X12_wrongAt w14 a0 1 pq14) fun v152 u152 => (v152, u152))
def kJ_X12_readsSum_38 (w14 : fx_U) (a0 : Nat) (v18 : Int) (bw : Nat) (pq14 : Int) (rec14 : (fx_U → Int → Int → Int → Int × fx_U)) (p38_s0 : Int) : Int × fx_U :=
  fx_ls (f_X12_closesSums w14 a0 p38_s0) fun u38 => fx_lt (u38 a0 10) fun c2_38 => fx_lt (u38 a0 11) fun w2_38 => fx_lt (1048576 * v18) fun v52 => fx_ls (fx_pt u38 bw w2_38.toNat v52) fun u53 => fx_lt (w2_38 + 1) fun v60 => fx_ls (fx_pt u53 a0 11 v60) fun u61 => fx_lt (pq14 + 1) fun v70 => fx_ls (fx_pt u61 a0 5 v70) fun u71 => fx_lc (f_X12_readsFactor u71 a0) fun v75 u75 => (if v75 = 0 then (0, u75) else fx_lt (u75 a0 10) fun c3_75 => fx_lt (u75 a0 11) fun w3_75 => fx_lt (u75 a0 5) fun p3_75 => kJ_X12_readsSum_163 rec14 u75 c3_75 w3_75 p3_75)
def kB_X12_readsSum_14 (rec14 : (fx_U → Int → Int → Int → Int × fx_U)) (a0 : Nat) (wq : Int) (bw : Nat) (w14 : fx_U) (cq14 : Int) (wq14 : Int) (pq14 : Int) : Int × fx_U :=
  fx_lt (f_X12_here w14 a0) fun v15 => fx_lt (f_X12_sumSign w14 v15) fun v18 => (if v18 = (-1) then fx_lt (f_X12_here w14 a0) fun v84 => (if v84 = 93 then fx_lt (f_X12_hasOpenSum w14 a0 wq) fun v94 => (if v94 = 0 then kJ_X12_readsSum_138 w14 a0 wq pq14 else fx_ls (f_X12_closesSums w14 a0 1) fun u102 => fx_lt (u102 a0 10) fun c2_102 => fx_lt (u102 a0 11) fun w2_102 => fx_lt (w2_102 - 1) fun v111 => fx_ls (fx_pt u102 a0 11 v111) fun u112 => fx_lt (u112 a0 9) fun v117 => fx_lt (fx_b_sub v117 1) fun v121 => fx_ls (fx_pt u112 a0 9 v121) fun u122 => fx_lt (pq14 + 1) fun v131 => fx_ls (fx_pt u122 a0 5 v131) fun u132 => kJ_X12_readsSum_163 rec14 u132 c2_102 v111 v131) else kJ_X12_readsSum_138 w14 a0 wq pq14) else (if v18 < 4 then kJ_X12_readsSum_38 w14 a0 v18 bw pq14 rec14 1 else kJ_X12_readsSum_38 w14 a0 v18 bw pq14 rec14 0))
def kL_X12_readsSum_14 (a0 : Nat) (wq : Int) (bw : Nat) : Nat → fx_U → Int → Int → Int → Int × fx_U
  | 0, _, _, _, _ => (0, fun _ _ => 0)
  | n + 1, w14, cq14, wq14, pq14 => kB_X12_readsSum_14 (kL_X12_readsSum_14 a0 wq bw n) a0 wq bw w14 cq14 wq14 pq14
def f_X12_readsSum (u : fx_U) (a0 : Nat) : Int × fx_U :=
  fx_lr (u a0 15) fun bs => fx_lr (u a0 16) fun bw => fx_lt (u a0 10) fun cq => fx_lt (u a0 11) fun wq => fx_lt (u a0 5) fun pq => fx_lc (f_X12_readsFactor u a0) fun v6 u6 => (if v6 = 0 then (0, u6) else fx_lt (u6 a0 10) fun c3_6 => fx_lt (u6 a0 11) fun w3_6 => fx_lt (u6 a0 5) fun p3_6 => kL_X12_readsSum_14 a0 wq bw (Int.toNat (260 - p3_6) + 1) u6 c3_6 w3_6 p3_6)
def kB_X12_endsPiece_0 (rec0 : (fx_U → Int → Int → Int → fx_U)) (a0 : Nat) (pq : Int) (w0 : fx_U) (cq0 : Int) (wq0 : Int) (pq0 : Int) : fx_U :=
  fx_lt (f_X12_waitTop w0 a0) fun v1 => (if v1 = 10 then fx_ls (f_X12_notes w0 a0 10 0) fun u13 => fx_lt (u13 a0 10) fun c1_13 => fx_lt (wq0 - 1) fun v22 => fx_ls (fx_pt u13 a0 11 v22) fun u23 => fx_lt (u23 a0 9) fun v28 => fx_lt (fx_b_sub v28 1) fun v32 => fx_ls (fx_pt u23 a0 9 v32) fun u33 => rec0 u33 c1_13 v22 pq else w0)
def kL_X12_endsPiece_0 (a0 : Nat) (pq : Int) : Nat → fx_U → Int → Int → Int → fx_U
  | 0, _, _, _, _ => (fun _ _ => 0)
  | n + 1, w0, cq0, wq0, pq0 => kB_X12_endsPiece_0 (kL_X12_endsPiece_0 a0 pq n) a0 pq w0 cq0 wq0 pq0
def f_X12_endsPiece (u : fx_U) (a0 : Nat) : fx_U :=
  fx_lr (u a0 15) fun bs => fx_lr (u a0 16) fun bw => fx_lt (u a0 5) fun pq => fx_lt (u a0 10) fun cq => fx_lt (u a0 11) fun wq => kL_X12_endsPiece_0 a0 pq (Int.toNat wq + 1) u cq wq pq
def kJ_X12_lands_22 (wq0 : Int) (w0 : fx_U) (bw : Nat) (bs : Nat) (cq : Int) (a0 : Nat) (rec0 : (fx_U → Int → Int → Int → fx_U)) (pq : Int) : fx_U :=
  fx_lt (wq0 - 1) fun v31 => fx_lt (w0 bw v31.toNat) fun v32 => fx_lt (v32 % 1048576) fun v35 => fx_lt (w0 bs v35.toNat) fun v49 => fx_lt (v49 / 1048576) fun v52 => fx_lt (1048576 * v52) fun v53 => fx_lt (v53 + cq) fun v58 => fx_ls (fx_pt w0 bs v35.toNat v58) fun u59 => fx_ls (fx_pt u59 a0 11 v31) fun u67 => rec0 u67 cq v31 pq
def kB_X12_lands_0 (rec0 : (fx_U → Int → Int → Int → fx_U)) (a0 : Nat) (bw : Nat) (bs : Nat) (cq : Int) (pq : Int) (x1 : Int) (w0 : fx_U) (cq0 : Int) (wq0 : Int) (pq0 : Int) : fx_U :=
  fx_lt (f_X12_waitTop w0 a0) fun v1 => (if v1 = 11 then kJ_X12_lands_22 wq0 w0 bw bs cq a0 rec0 pq else (if x1 = 0 then w0 else fx_lt (f_X12_waitTop w0 a0) fun v14 => (if v14 = 12 then kJ_X12_lands_22 wq0 w0 bw bs cq a0 rec0 pq else w0)))
def kL_X12_lands_0 (a0 : Nat) (bw : Nat) (bs : Nat) (cq : Int) (pq : Int) (x1 : Int) : Nat → fx_U → Int → Int → Int → fx_U
  | 0, _, _, _, _ => (fun _ _ => 0)
  | n + 1, w0, cq0, wq0, pq0 => kB_X12_lands_0 (kL_X12_lands_0 a0 bw bs cq pq x1 n) a0 bw bs cq pq x1 w0 cq0 wq0 pq0
def f_X12_lands (u : fx_U) (a0 : Nat) (x1 : Int) : fx_U :=
  fx_lr (u a0 15) fun bs => fx_lr (u a0 16) fun bw => fx_lt (u a0 10) fun cq => fx_lt (u a0 5) fun pq => fx_lt (u a0 11) fun wq => kL_X12_lands_0 a0 bw bs cq pq x1 (Int.toNat wq + 1) u cq wq pq
def f_X12_jumps (u : fx_U) (a0 : Nat) (x1 : Int) : fx_U :=
  fx_lr (u a0 15) fun bs => fx_lr (u a0 16) fun bw => fx_lt (u a0 10) fun cq => fx_lt (u a0 11) fun wq => fx_lt (u a0 5) fun pq => fx_lt (1048576 * x1) fun v11 => fx_lt (v11 + cq) fun v16 => fx_ls (fx_pt u bw wq.toNat v16) fun u17 => fx_lt (wq + 1) fun v24 => fx_ls (fx_pt u17 a0 11 v24) fun u25 => fx_ls (f_X12_notes u25 a0 x1 0) fun u31 => fx_lt (u31 a0 10) fun c1_31 => fx_lt (pq + 1) fun v40 => fx_ls (fx_pt u31 a0 5 v40) fun u41 => u41
def kJ_X12_readsCompared_52 (u1 : fx_U) (a0 : Nat) (p4_1 : Int) (p52_s0 : Int) : Int × fx_U :=
  (if p52_s0 = (-1) then fx_lc (f_X12_wrongAt u1 a0 1 p4_1) fun v64 u64 => (v64, u64) else fx_lt (p4_1 + 1) fun v74 => fx_ls (fx_pt u1 a0 5 v74) fun u75 => fx_lc (f_X12_readsSum u75 a0) fun v79 u79 => (if v79 = 0 then (0, u79) else fx_lt (u79 a0 10) fun c4_79 => fx_lt (u79 a0 5) fun p4_79 => fx_ls (f_X12_notes u79 a0 p52_s0 0) fun u90 => fx_lt (u90 a0 10) fun c1_90 => fx_ls (f_X12_endsPiece u90 a0) fun u94 => fx_lt (u94 a0 10) fun c2_94 => fx_lt (u94 a0 11) fun w2_94 => (1, u94)))
def f_X12_readsCompared (u : fx_U) (a0 : Nat) : Int × fx_U :=
  fx_lr (u a0 15) fun bs => fx_lr (u a0 16) fun bw => fx_lt (u a0 10) fun cq => fx_lt (u a0 11) fun wq => fx_lt (u a0 5) fun pq => fx_lc (f_X12_readsSum u a0) fun v1 u1 => (if v1 = 0 then (0, u1) else fx_lt (u1 a0 10) fun c4_1 => fx_lt (u1 a0 5) fun p4_1 => fx_lt (f_X12_here u1 a0) fun v10 => (if v10 = 60 then kJ_X12_readsCompared_52 u1 a0 p4_1 7 else fx_lt (f_X12_here u1 a0) fun v24 => (if v24 = 62 then kJ_X12_readsCompared_52 u1 a0 p4_1 8 else fx_lt (f_X12_here u1 a0) fun v38 => (if v38 = 61 then kJ_X12_readsCompared_52 u1 a0 p4_1 9 else kJ_X12_readsCompared_52 u1 a0 p4_1 (-1)))))
def kJ_X12_readsCondition_75 (w40 : fx_U) (a0 : Nat) (rec40 : (fx_U → Int → Int → Int → Int × fx_U)) (cq40 : Int) (p75_s0 : Int) : Int × fx_U :=
  fx_lc (f_X12_opens w40 a0 p75_s0) fun v75 u75 => (if v75 = 0 then (0, u75) else fx_lt (u75 a0 11) fun w1_75 => fx_lt (u75 a0 5) fun p1_75 => rec40 u75 cq40 w1_75 p1_75)
def kJ_X12_readsCondition_58 (w40 : fx_U) (a0 : Nat) (rec40 : (fx_U → Int → Int → Int → Int × fx_U)) (cq40 : Int) : Int × fx_U :=
  fx_lt (f_X12_here w40 a0) fun v60 => (if v60 = 33 then kJ_X12_readsCondition_75 w40 a0 rec40 cq40 10 else kJ_X12_readsCondition_75 w40 a0 rec40 cq40 13)
def kJ_X12_readsCondition_215 (u195 : fx_U) (a0 : Nat) (rec40 : (fx_U → Int → Int → Int → Int × fx_U)) (p215_s0 : Int) : Int × fx_U :=
  fx_ls (f_X12_jumps u195 a0 p215_s0) fun u215 => fx_lt (u215 a0 10) fun c3_215 => fx_lt (u215 a0 11) fun w3_215 => fx_lt (u215 a0 5) fun p3_215 => rec40 u215 c3_215 w3_215 p3_215
def kJ_X12_readsCondition_195 (w92 : fx_U) (a0 : Nat) (rec40 : (fx_U → Int → Int → Int → Int × fx_U)) (p195_s0 : Int) : Int × fx_U :=
  fx_ls (f_X12_lands w92 a0 p195_s0) fun u195 => fx_lt (u195 a0 11) fun w2_195 => fx_lt (f_X12_here u195 a0) fun v200 => (if v200 = 38 then kJ_X12_readsCondition_215 u195 a0 rec40 11 else kJ_X12_readsCondition_215 u195 a0 rec40 12)
def kJ_X12_readsCondition_180 (w92 : fx_U) (a0 : Nat) (rec40 : (fx_U → Int → Int → Int → Int × fx_U)) : Int × fx_U :=
  fx_lt (f_X12_here w92 a0) fun v182 => (if v182 = 124 then kJ_X12_readsCondition_195 w92 a0 rec40 1 else kJ_X12_readsCondition_195 w92 a0 rec40 0)
def kB_X12_readsCondition_92 (rec92 : (fx_U → Int → Int → Int → Int × fx_U)) (a0 : Nat) (rec40 : (fx_U → Int → Int → Int → Int × fx_U)) (w92 : fx_U) (cq92 : Int) (wq92 : Int) (pq92 : Int) : Int × fx_U :=
  fx_lt (f_X12_here w92 a0) fun v93 => (if v93 = 41 then fx_ls (f_X12_lands w92 a0 1) fun u103 => fx_lt (u103 a0 11) fun w2_103 => fx_lt (w2_103 - 1) fun v112 => fx_ls (fx_pt u103 a0 11 v112) fun u113 => fx_lt (u113 a0 9) fun v118 => fx_lt (fx_b_sub v118 1) fun v122 => fx_ls (fx_pt u113 a0 9 v122) fun u123 => fx_lt (pq92 + 1) fun v132 => fx_ls (fx_pt u123 a0 5 v132) fun u133 => (if v112 = 0 then (1, u133) else fx_ls (f_X12_endsPiece u133 a0) fun u146 => fx_lt (u146 a0 10) fun c2_146 => fx_lt (u146 a0 11) fun w2_146 => rec92 u146 c2_146 w2_146 v132) else fx_lt (f_X12_here w92 a0) fun v153 => (if v153 = 38 then kJ_X12_readsCondition_180 w92 a0 rec40 else fx_lt (f_X12_here w92 a0) fun v162 => (if v162 = 124 then kJ_X12_readsCondition_180 w92 a0 rec40 else fx_lc (f_X12_wrongAt w92 a0 1 pq92) fun v176 u176 => (v176, u176))))
def kL_X12_readsCondition_92 (a0 : Nat) (rec40 : (fx_U → Int → Int → Int → Int × fx_U)) : Nat → fx_U → Int → Int → Int → Int × fx_U
  | 0, _, _, _, _ => (0, fun _ _ => 0)
  | n + 1, w92, cq92, wq92, pq92 => kB_X12_readsCondition_92 (kL_X12_readsCondition_92 a0 rec40 n) a0 rec40 w92 cq92 wq92 pq92
def kB_X12_readsCondition_40 (rec40 : (fx_U → Int → Int → Int → Int × fx_U)) (a0 : Nat) (w40 : fx_U) (cq40 : Int) (wq40 : Int) (pq40 : Int) : Int × fx_U :=
  fx_lt (f_X12_here w40 a0) fun v41 => (if v41 = 33 then kJ_X12_readsCondition_58 w40 a0 rec40 cq40 else fx_lt (f_X12_here w40 a0) fun v50 => (if v50 = 40 then kJ_X12_readsCondition_58 w40 a0 rec40 cq40 else fx_lc (f_X12_readsCompared w40 a0) fun v84 u84 => (if v84 = 0 then (0, u84) else fx_lt (u84 a0 10) fun c3_84 => fx_lt (u84 a0 11) fun w3_84 => fx_lt (u84 a0 5) fun p3_84 => kL_X12_readsCondition_92 a0 rec40 (Int.toNat (260 - p3_84) + 1) u84 c3_84 w3_84 p3_84)))
def kL_X12_readsCondition_40 (a0 : Nat) : Nat → fx_U → Int → Int → Int → Int × fx_U
  | 0, _, _, _, _ => (0, fun _ _ => 0)
  | n + 1, w40, cq40, wq40, pq40 => kB_X12_readsCondition_40 (kL_X12_readsCondition_40 a0 n) a0 w40 cq40 wq40 pq40
def f_X12_readsCondition (u : fx_U) (a0 : Nat) : Int × fx_U :=
  fx_lr (u a0 15) fun bs => fx_lr (u a0 16) fun bw => fx_lt (u a0 10) fun cq => fx_lt (u a0 11) fun wq => fx_lt (u a0 5) fun pq => fx_lt (f_X12_here u a0) fun v1 => (if v1 = 40 then fx_ls (fx_pt u a0 9 0) fun u21 => fx_ls (fx_pt u21 a0 11 0) fun u26 => fx_lc (f_X12_opens u26 a0 13) fun v32 u32 => (if v32 = 0 then (0, u32) else fx_lt (u32 a0 11) fun w1_32 => fx_lt (u32 a0 5) fun p1_32 => kL_X12_readsCondition_40 a0 (Int.toNat (260 - p1_32) + 1) u32 cq w1_32 p1_32) else fx_lc (f_X12_wrongAt u a0 1 pq) fun v15 u15 => (v15, u15))
def f_X12_readsClause (u : fx_U) (a0 : Nat) : Int × fx_U :=
  fx_lr (u a0 15) fun bs => fx_lr (u a0 16) fun bw => fx_lr (u a0 18) fun bf => fx_lr (u a0 19) fun bh => fx_lr (u a0 20) fun bt => fx_lt (u a0 10) fun cq => fx_lt (u a0 11) fun wq => fx_lt (u a0 5) fun pq => fx_lt (u a0 12) fun mq => fx_lt (f_X12_here u a0) fun v1 => fx_lt (f_X12_isClause u v1) fun v6 => (if v6 = 0 then fx_lc (f_X12_wrongAt u a0 1 pq) fun v18 u18 => (v18, u18) else (if mq = 16 then fx_lc (f_X12_wrongAt u a0 4 pq) fun v37 u37 => (v37, u37) else fx_lr (u a0 17) fun b42 => fx_ls (fx_pt u b42 mq.toNat v1) fun u50 => fx_lt (pq + 1) fun v57 => fx_ls (fx_pt u50 a0 5 v57) fun u58 => fx_ls (fx_pt u58 bf mq.toNat cq) fun u73 => fx_ls (fx_pt u73 a0 9 0) fun u76 => fx_ls (fx_pt u76 a0 11 0) fun u81 => fx_lc (f_X12_readsSum u81 a0) fun v85 u85 => (if v85 = 0 then (0, u85) else fx_lt (u85 a0 10) fun c4_85 => fx_lt (u85 a0 5) fun p4_85 => fx_ls (fx_pt u85 bh mq.toNat c4_85) fun u105 => fx_lc (f_X12_readsCondition u105 a0) fun v107 u107 => (if v107 = 0 then (0, u107) else fx_lt (u107 a0 10) fun c5_107 => fx_lt (u107 a0 5) fun p5_107 => fx_ls (fx_pt u107 bt mq.toNat c5_107) fun u127 => fx_lt (mq + 1) fun v134 => fx_ls (fx_pt u127 a0 12 v134) fun u135 => (1, u135)))))
def kB_X12_law_138 (rec138 : (Int → fx_U → Int × fx_U)) (mL46 : Int) (a0 : Nat) (bf : Nat) (bcf : Nat) (bh : Nat) (bch : Nat) (bt : Nat) (bct : Nat) (p138_3 : Int) (w138 : fx_U) : Int × fx_U :=
  (if p138_3 < mL46 then fx_lr (w138 a0 22) fun b147 => fx_lr (w138 a0 17) fun b152 => fx_lt (w138 b152 p138_3.toNat) fun v156 => fx_ls (fx_pt w138 b147 p138_3.toNat v156) fun u157 => fx_lt (u157 bf p138_3.toNat) fun v168 => fx_ls (fx_pt u157 bcf p138_3.toNat v168) fun u169 => fx_lt (u169 bh p138_3.toNat) fun v180 => fx_ls (fx_pt u169 bch p138_3.toNat v180) fun u181 => fx_lt (u181 bt p138_3.toNat) fun v192 => fx_ls (fx_pt u181 bct p138_3.toNat v192) fun u193 => fx_lt (p138_3 + 1) fun v194 => rec138 v194 u193 else (mL46, w138))
def kL_X12_law_138 (mL46 : Int) (a0 : Nat) (bf : Nat) (bcf : Nat) (bh : Nat) (bch : Nat) (bt : Nat) (bct : Nat) : Nat → Int → fx_U → Int × fx_U
  | 0, _, _ => (0, fun _ _ => 0)
  | n + 1, p138_3, w138 => kB_X12_law_138 (kL_X12_law_138 mL46 a0 bf bcf bh bch bt bct n) mL46 a0 bf bcf bh bch bt bct p138_3 w138
def kB_X12_law_110 (rec110 : (Int → fx_U → Int × fx_U)) (cL46 : Int) (bs : Nat) (bc : Nat) (mL46 : Int) (a0 : Nat) (bf : Nat) (bcf : Nat) (bh : Nat) (bch : Nat) (bt : Nat) (bct : Nat) (p110_3 : Int) (w110 : fx_U) : Int × fx_U :=
  (if p110_3 < cL46 then fx_lt (w110 bs p110_3.toNat) fun v128 => fx_ls (fx_pt w110 bc p110_3.toNat v128) fun u129 => fx_lt (p110_3 + 1) fun v130 => rec110 v130 u129 else kL_X12_law_138 mL46 a0 bf bcf bh bch bt bct (Int.toNat (16 - 0) + 1) 0 w110)
def kL_X12_law_110 (cL46 : Int) (bs : Nat) (bc : Nat) (mL46 : Int) (a0 : Nat) (bf : Nat) (bcf : Nat) (bh : Nat) (bch : Nat) (bt : Nat) (bct : Nat) : Nat → Int → fx_U → Int × fx_U
  | 0, _, _ => (0, fun _ _ => 0)
  | n + 1, p110_3, w110 => kB_X12_law_110 (kL_X12_law_110 cL46 bs bc mL46 a0 bf bcf bh bch bt bct n) cL46 bs bc mL46 a0 bf bcf bh bch bt bct p110_3 w110
def kJ_X12_law_86 (w46 : fx_U) (a0 : Nat) (p46_2 : Int) (mL46 : Int) (cL46 : Int) (bs : Nat) (bc : Nat) (bf : Nat) (bcf : Nat) (bh : Nat) (bch : Nat) (bt : Nat) (bct : Nat) : Int × fx_U :=
  fx_ls (fx_pt w46 a0 4 0) fun u88 => (if p46_2 = 0 then fx_lt (u88 a0 7) fun v96 => (v96, u88) else fx_ls (fx_pt u88 a0 13 mL46) fun u105 => kL_X12_law_110 cL46 bs bc mL46 a0 bf bcf bh bch bt bct (Int.toNat (260 - 0) + 1) 0 u105)
def kJ_X12_law_82 (rec46 : (Int → fx_U → Int → Int → Int → Int → Int × fx_U)) (p82_s0 : Int) (w82 : fx_U) (cL82 : Int) (wL82 : Int) (pL82 : Int) (mL82 : Int) : Int × fx_U :=
  rec46 p82_s0 w82 cL82 wL82 pL82 mL82
def kJ_X12_law_81 (a0 : Nat) (rec46 : (Int → fx_U → Int → Int → Int → Int → Int × fx_U)) (w81 : fx_U) : Int × fx_U :=
  fx_lt (w81 a0 10) fun q_23v => fx_lt (w81 a0 11) fun q_24v => fx_lt (w81 a0 5) fun q_25v => fx_lt (w81 a0 12) fun q_26v => kJ_X12_law_82 rec46 0 w81 q_23v q_24v q_25v q_26v
def kB_X12_law_46 (rec46 : (Int → fx_U → Int → Int → Int → Int → Int × fx_U)) (a0 : Nat) (bs : Nat) (bc : Nat) (bf : Nat) (bcf : Nat) (bh : Nat) (bch : Nat) (bt : Nat) (bct : Nat) (p46_2 : Int) (w46 : fx_U) (cL46 : Int) (wL46 : Int) (pL46 : Int) (mL46 : Int) : Int × fx_U :=
  (if p46_2 = 0 then kJ_X12_law_86 w46 a0 p46_2 mL46 cL46 bs bc bf bcf bh bch bt bct else fx_lt (w46 a0 6) fun v55 => (if pL46 < v55 then fx_lc (f_X12_takes w46 a0 59) fun v64 u64 => fx_lt (u64 a0 5) fun y64 => (if v64 = 0 then kJ_X12_law_81 a0 rec46 u64 else fx_lc (f_X12_readsClause u64 a0) fun v71 u71 => (if v71 = 0 then kJ_X12_law_81 a0 rec46 u71 else fx_lt (u71 a0 10) fun c6_71 => fx_lt (u71 a0 5) fun p6_71 => fx_lt (u71 a0 12) fun m6_71 => fx_lt (u71 a0 11) fun q_35v => kJ_X12_law_82 rec46 1 u71 c6_71 q_35v p6_71 m6_71)) else kJ_X12_law_86 w46 a0 p46_2 mL46 cL46 bs bc bf bcf bh bch bt bct))
def kL_X12_law_46 (a0 : Nat) (bs : Nat) (bc : Nat) (bf : Nat) (bcf : Nat) (bh : Nat) (bch : Nat) (bt : Nat) (bct : Nat) : Nat → Int → fx_U → Int → Int → Int → Int → Int × fx_U
  | 0, _, _, _, _, _, _ => (0, fun _ _ => 0)
  | n + 1, p46_2, w46, cL46, wL46, pL46, mL46 => kB_X12_law_46 (kL_X12_law_46 a0 bs bc bf bcf bh bch bt bct n) a0 bs bc bf bcf bh bch bt bct p46_2 w46 cL46 wL46 pL46 mL46
def f_X12_law (u : fx_U) (a0 : Nat) (x1 : Int) : Int × fx_U :=
  fx_lt (u a0 4) fun q_1v => fx_lr (u a0 15) fun bs => fx_lr (u a0 16) fun bw => fx_lr (u a0 18) fun bf => fx_lr (u a0 19) fun bh => fx_lr (u a0 20) fun bt => fx_lr (u a0 21) fun bc => fx_lr (u a0 23) fun bcf => fx_lr (u a0 24) fun bch => fx_lr (u a0 25) fun bct => fx_lt (f_X12_in u x1 1 240) fun v5 => (if v5 = 0 then ((-1), u) else (if q_1v < x1 then ((-1), u) else fx_ls (fx_pt u a0 5 0) fun u23 => fx_ls (fx_pt u23 a0 6 x1) fun u28 => fx_ls (fx_pt u28 a0 10 0) fun u33 => fx_ls (fx_pt u33 a0 12 0) fun u38 => fx_lt (u38 a0 11) fun q_6v => fx_lc (f_X12_readsClause u38 a0) fun v42 u42 => fx_lt (u42 a0 10) fun q_36v => fx_lt (u42 a0 11) fun q_37v => fx_lt (u42 a0 5) fun q_38v => fx_lt (u42 a0 12) fun q_39v => kL_X12_law_46 a0 bs bc bf bcf bh bch bt bct (262) v42 u42 q_36v q_37v q_38v q_39v))
def f_X12_keep (u : fx_U) (a0 : Nat) : Int × fx_U :=
  fx_lr (u a0 0) fun q_1b => fx_lr (u a0 2) fun q_2b => fx_ls (fx_pt u a0 45 1) fun u2 => fx_ls (f_X12_copies_100_102 u2 q_1b q_2b) fun u13 => fx_lt (f_X12_paintedAll u13 a0) fun v17 => (v17, u13)
def f_X12_undo (u : fx_U) (a0 : Nat) : Int × fx_U :=
  fx_lt (u a0 45) fun q_1v => fx_lr (u a0 0) fun q_2b => fx_lr (u a0 2) fun q_3b => (if q_1v = 0 then (0, u) else fx_ls (f_X12_copies_102_100 u q_3b q_2b) fun u17 => (1, u17))
def kJ_X12_tried_164 (u36 : fx_U) (q_2b : Nat) (q_1b : Nat) (p164_3 : Int) : Int × fx_U :=
  fx_ls (f_X12_copies_101_100 u36 q_2b q_1b) fun u172 => (p164_3, u172)
def kJ_X12_tried_131 (u36 : fx_U) (q_2b : Nat) (q_1b : Nat) (p131_s0 : Int) : Int × fx_U :=
  kJ_X12_tried_164 u36 q_2b q_1b p131_s0
def kJ_X12_tried_130 (u36 : fx_U) (q_2b : Nat) (q_1b : Nat) : Int × fx_U :=
  kJ_X12_tried_131 u36 q_2b q_1b 0
def f_X12_tried (u : fx_U) (a0 : Nat) (x1 : Int) (x2 : Int) : Int × fx_U :=
  fx_lr (u a0 0) fun q_1b => fx_lr (u a0 1) fun q_2b => fx_lt (f_X12_in u x1 1 600) fun v5 => (if v5 = 0 then ((-1), u) else fx_lt (f_X12_in u x2 0 6) fun v15 => (if v15 = 0 then ((-1), u) else fx_ls (f_X12_copies_100_101 u q_1b q_2b) fun u31 => fx_ls (f_X12_minutesGo u31 a0 x1) fun u36 => (if x2 = 0 then fx_lt (f_X12_paintedAll u36 a0) fun v81 => kJ_X12_tried_164 u36 q_2b q_1b v81 else (if x2 = 1 then fx_lt (f_X12_spoiltAll u36 a0) fun v89 => kJ_X12_tried_164 u36 q_2b q_1b v89 else (if x2 = 2 then fx_lt (f_X12_wetAll u36 a0) fun v97 => kJ_X12_tried_164 u36 q_2b q_1b v97 else (if x2 = 3 then fx_lt (f_X12_paintedAll u36 a0) fun v105 => fx_lt (u36 q_1b (Int.toNat 512)) fun v115 => (if v105 = v115 then fx_lt (f_X12_wetAll u36 a0) fun v120 => (if v120 = 0 then kJ_X12_tried_131 u36 q_2b q_1b 1 else kJ_X12_tried_130 u36 q_2b q_1b) else kJ_X12_tried_130 u36 q_2b q_1b) else (if x2 = 4 then fx_lt (u36 q_1b (Int.toNat 520)) fun v142 => kJ_X12_tried_164 u36 q_2b q_1b v142 else (if x2 = 5 then fx_lt (u36 q_1b (Int.toNat 521)) fun v154 => kJ_X12_tried_164 u36 q_2b q_1b v154 else fx_lt (f_X12_offAll u36 a0) fun v160 => kJ_X12_tried_164 u36 q_2b q_1b v160))))))))
