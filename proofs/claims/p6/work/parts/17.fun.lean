/-! what methods compute: laid by wip/p2/build.py -/
def f_X11_isIn (u : fx_U) (x0 : Int) (x1 : Int) (x2 : Int) : Int :=
  (if x0 < x1 then 0 else (if x2 < x0 then 0 else 1))
def f_J9_max_7cf53 (u : fx_U) (x0 : Int) (x1 : Int) : Int :=
  (if x0 < x1 then x1 else x0)
def f_J9_min_7cf53 (u : fx_U) (x0 : Int) (x1 : Int) : Int :=
  (if x1 < x0 then x1 else x0)
def f_X3_clear (u : fx_U) (a0 : Nat) : fx_U :=
  fx_ls (fx_pt u a0 0 0) fun u2 => fx_ls (fx_pt u2 a0 1 0) fun u7 => fx_ls (fx_pt u7 a0 2 0) fun u12 => u12
def f_X3_beginClause (u : fx_U) (a0 : Nat) (x1 : Int) : fx_U :=
  fx_lt (u a0 0) fun v1 => (if v1 < 16 then fx_lr (u a0 5) fun b10 => fx_ls (fx_pt u b10 v1.toNat x1) fun u18 => fx_lr (u18 a0 6) fun b20 => fx_lt (u18 a0 1) fun v28 => fx_ls (fx_pt u18 b20 v1.toNat v28) fun u31 => fx_lt (v1 + 1) fun v38 => fx_ls (fx_pt u31 a0 0 v38) fun u39 => u39 else u)
def f_X3_beginCondition (u : fx_U) (a0 : Nat) : fx_U :=
  fx_lt (u a0 0) fun v1 => (if 0 < v1 then fx_lr (u a0 7) fun b8 => fx_lt (v1 - 1) fun v16 => fx_lt (u a0 1) fun v18 => fx_ls (fx_pt u b8 v16.toNat v18) fun u21 => u21 else u)
def kJ_X3_add_29 (a0 : Nat) (v1 : Int) (x1 : Int) (x2 : Int) (w29 : fx_U) : Int × fx_U :=
  fx_lr (w29 a0 3) fun b30 => fx_ls (fx_pt w29 b30 v1.toNat x1) fun u38 => fx_lr (u38 a0 4) fun b40 => fx_ls (fx_pt u38 b40 v1.toNat x2) fun u48 => fx_lt (v1 + 1) fun v55 => fx_ls (fx_pt u48 a0 1 v55) fun u56 => fx_lt (v55 - 1) fun v64 => (v64, u56)
def f_X3_add (u : fx_U) (a0 : Nat) (x1 : Int) (x2 : Int) : Int × fx_U :=
  fx_lt (u a0 1) fun v1 => (if v1 < 240 then (if x1 = 105 then (if x2 = 116 then fx_ls (fx_pt u a0 2 1) fun u26 => kJ_X3_add_29 a0 v1 x1 x2 u26 else kJ_X3_add_29 a0 v1 x1 x2 u) else kJ_X3_add_29 a0 v1 x1 x2 u) else ((-1), u))
def f_X3_leadHere (u : fx_U) (a0 : Nat) (x1 : Int) : fx_U :=
  (if x1 < 0 then u else fx_lt (u a0 1) fun v6 => (if x1 < v6 then fx_lr (u a0 4) fun b13 => fx_ls (fx_pt u b13 x1.toNat v6) fun u21 => u21 else u))
def f_X4_isTimes (u : fx_U) (x0 : Int) : Int :=
  (if x0 = 42 then 1 else (if x0 = 47 then 1 else (if x0 = 37 then 1 else 0)))
def f_X4_isValueLetter (u : fx_U) (x0 : Int) : Int :=
  (if x0 = 97 then 1 else (if x0 = 98 then 0 else (if x0 = 99 then 1 else (if x0 = 100 then 0 else (if x0 = 101 then 0 else (if x0 = 102 then 0 else (if x0 = 103 then 0 else (if x0 = 104 then 1 else (if x0 = 105 then 1 else (if x0 = 106 then 0 else (if x0 = 107 then 1 else (if x0 = 108 then 0 else (if x0 = 109 then 0 else (if x0 = 110 then 1 else (if x0 = 111 then 0 else (if x0 = 112 then 0 else (if x0 = 113 then 0 else (if x0 = 114 then 1 else (if x0 = 115 then 0 else (if x0 = 116 then 1 else (if x0 = 117 then 0 else (if x0 = 118 then 0 else (if x0 = 119 then 1 else 0)))))))))))))))))))))))
def f_X4_peek (u : fx_U) (a0 : Nat) : Int :=
  fx_lr (u a0 0) fun at1 => fx_lt (u a0 2) fun v1 => (if v1 < 0 then (-1) else fx_lt (u a0 1) fun v12 => (if v1 < v12 then fx_lt (u at1 v1.toNat) fun v26 => v26 else (-1)))
def f_X4_fail (u : fx_U) (a0 : Nat) (x1 : Int) : Int × fx_U :=
  fx_lt (fx_b_mul (-1000) x1) fun v5 => fx_lt (u a0 2) fun v7 => fx_lt (fx_b_sub v5 v7) fun v10 => fx_ls (fx_pt u a0 3 v10) fun u11 => (0, u11)
def f_X4_mayOpen (u : fx_U) (a0 : Nat) (x1 : Int) : Int × fx_U :=
  (if x1 < 6 then fx_lt (u a0 2) fun v14 => fx_lt (fx_b_add v14 1) fun v18 => fx_ls (fx_pt u a0 2 v18) fun u19 => (1, u19) else fx_lc (f_X4_fail u a0 5) fun v8 u8 => (v8, u8))
def f_X4_expect (u : fx_U) (a0 : Nat) (x1 : Int) : Int × fx_U :=
  fx_lr (u a0 0) fun at1 => fx_lt (f_X4_peek u a0) fun v1 => (if v1 = x1 then fx_lt (u a0 2) fun v16 => fx_lt (fx_b_add v16 1) fun v20 => fx_ls (fx_pt u a0 2 v20) fun u21 => (1, u21) else fx_lc (f_X4_fail u a0 1) fun v10 u10 => (v10, u10))
def kJ_X4_readNumber_52 (w4 : fx_U) (a0 : Nat) (p4_1 : Int) : Int × fx_U :=
  fx_lt (f_X4_peek w4 a0) fun v53 => fx_lt (f_X11_isIn w4 v53 48 57) fun v60 => (if v60 = 0 then fx_lr (w4 a0 4) fun b73 => fx_lc (f_X3_add w4 b73 48 p4_1) fun v79 u79 => (1, u79) else fx_lc (f_X4_fail w4 a0 2) fun v68 u68 => (v68, u68))
def kB_X4_readNumber_4 (rec4 : (Int → Int → fx_U → Int × fx_U)) (a0 : Nat) (p4_1 : Int) (p4_2 : Int) (w4 : fx_U) : Int × fx_U :=
  (if p4_2 < 5 then fx_lt (f_X4_peek w4 a0) fun v10 => fx_lt (f_X11_isIn w4 v10 48 57) fun v17 => (if v17 = 0 then kJ_X4_readNumber_52 w4 a0 p4_1 else fx_lt (fx_b_mul p4_1 10) fun v26 => fx_lt (f_X4_peek w4 a0) fun v28 => fx_lt (fx_b_add v26 v28) fun v31 => fx_lt (fx_b_sub v31 48) fun v34 => fx_lt (w4 a0 2) fun v38 => fx_lt (fx_b_add v38 1) fun v42 => fx_ls (fx_pt w4 a0 2 v42) fun u43 => fx_lt (p4_2 + 1) fun v46 => rec4 v34 v46 u43) else kJ_X4_readNumber_52 w4 a0 p4_1)
def kL_X4_readNumber_4 (a0 : Nat) : Nat → Int → Int → fx_U → Int × fx_U
  | 0, _, _, _ => (0, fun _ _ => 0)
  | n + 1, p4_1, p4_2, w4 => kB_X4_readNumber_4 (kL_X4_readNumber_4 a0 n) a0 p4_1 p4_2 w4
def f_X4_readNumber (u : fx_U) (a0 : Nat) : Int × fx_U :=
  fx_lr (u a0 0) fun at1 => kL_X4_readNumber_4 a0 (Int.toNat (5 - 0) + 1) 0 0 u
def f_X4_readFactor_L6 (u : fx_U) (a0 : Nat) (x1 : Int) : Int × fx_U :=
  fx_lr (u a0 0) fun at1 => fx_lt (f_X4_peek u a0) fun v1 => (if v1 = 91 then fx_lc (f_X4_mayOpen u a0 x1) fun v13 u13 => (if v13 = 0 then (0, u13) else (0, fun _ _ => 0)) else fx_lt (f_X11_isIn u v1 48 57) fun v49 => (if v49 = 0 then fx_lt (f_X4_isValueLetter u v1) fun v61 => (if v61 = 0 then fx_lc (f_X4_fail u a0 1) fun v69 u69 => (v69, u69) else fx_lt (u a0 2) fun v75 => fx_lt (fx_b_add v75 1) fun v79 => fx_ls (fx_pt u a0 2 v79) fun u80 => fx_lr (u80 a0 4) fun b84 => fx_lc (f_X3_add u80 b84 105 v1) fun v90 u90 => (1, u90)) else fx_lc (f_X4_readNumber u a0) fun v56 u56 => (v56, u56)))
def kB_X4_readTerm_L6_8 (rec8 : (Int → Int → fx_U → Int × fx_U)) (a0 : Nat) (x1 : Int) (p8_2 : Int) (p8_3 : Int) (w8 : fx_U) : Int × fx_U :=
  (if p8_3 < 240 then (if p8_2 = 0 then (p8_2, w8) else fx_lt (f_X4_peek w8 a0) fun v20 => fx_lt (f_X4_isTimes w8 v20) fun v23 => (if v23 = 0 then (p8_2, w8) else fx_lt (f_X4_peek w8 a0) fun v30 => fx_lt (w8 a0 2) fun v37 => fx_lt (fx_b_add v37 1) fun v41 => fx_ls (fx_pt w8 a0 2 v41) fun u42 => fx_lc (f_X4_readFactor_L6 u42 a0 x1) fun v47 u47 => fx_lr (u47 a0 4) fun b52 => fx_lc (f_X3_add u47 b52 v30 0) fun v58 u58 => fx_lt (p8_3 + 1) fun v62 => rec8 v47 v62 u58)) else (p8_2, w8))
def kL_X4_readTerm_L6_8 (a0 : Nat) (x1 : Int) : Nat → Int → Int → fx_U → Int × fx_U
  | 0, _, _, _ => (0, fun _ _ => 0)
  | n + 1, p8_2, p8_3, w8 => kB_X4_readTerm_L6_8 (kL_X4_readTerm_L6_8 a0 x1 n) a0 x1 p8_2 p8_3 w8
def f_X4_readTerm_L6 (u : fx_U) (a0 : Nat) (x1 : Int) : Int × fx_U :=
  fx_lr (u a0 0) fun at1 => fx_lc (f_X4_readFactor_L6 u a0 x1) fun v2 u2 => kL_X4_readTerm_L6_8 a0 x1 (Int.toNat (240 - 0) + 1) v2 0 u2
def kJ_X4_readSum_L6_37 (w8 : fx_U) (a0 : Nat) (x1 : Int) (p8_3 : Int) (rec8 : (Int → Int → fx_U → Int × fx_U)) : Int × fx_U :=
  fx_lt (f_X4_peek w8 a0) fun v38 => fx_lt (w8 a0 2) fun v45 => fx_lt (fx_b_add v45 1) fun v49 => fx_ls (fx_pt w8 a0 2 v49) fun u50 => fx_lc (f_X4_readTerm_L6 u50 a0 x1) fun v55 u55 => fx_lr (u55 a0 4) fun b60 => fx_lc (f_X3_add u55 b60 v38 0) fun v66 u66 => fx_lt (p8_3 + 1) fun v70 => rec8 v55 v70 u66
def kB_X4_readSum_L6_8 (rec8 : (Int → Int → fx_U → Int × fx_U)) (a0 : Nat) (x1 : Int) (p8_2 : Int) (p8_3 : Int) (w8 : fx_U) : Int × fx_U :=
  (if p8_3 < 240 then (if p8_2 = 0 then (p8_2, w8) else fx_lt (f_X4_peek w8 a0) fun v20 => (if v20 = 43 then kJ_X4_readSum_L6_37 w8 a0 x1 p8_3 rec8 else fx_lt (f_X4_peek w8 a0) fun v29 => (if v29 = 45 then kJ_X4_readSum_L6_37 w8 a0 x1 p8_3 rec8 else (p8_2, w8)))) else (p8_2, w8))
def kL_X4_readSum_L6_8 (a0 : Nat) (x1 : Int) : Nat → Int → Int → fx_U → Int × fx_U
  | 0, _, _, _ => (0, fun _ _ => 0)
  | n + 1, p8_2, p8_3, w8 => kB_X4_readSum_L6_8 (kL_X4_readSum_L6_8 a0 x1 n) a0 x1 p8_2 p8_3 w8
def f_X4_readSum_L6 (u : fx_U) (a0 : Nat) (x1 : Int) : Int × fx_U :=
  fx_lr (u a0 0) fun at1 => fx_lc (f_X4_readTerm_L6 u a0 x1) fun v2 u2 => kL_X4_readSum_L6_8 a0 x1 (Int.toNat (240 - 0) + 1) v2 0 u2
def f_X4_readFactor_L5 (u : fx_U) (a0 : Nat) (x1 : Int) : Int × fx_U :=
  fx_lr (u a0 0) fun at1 => fx_lt (f_X4_peek u a0) fun v1 => (if v1 = 91 then fx_lc (f_X4_mayOpen u a0 x1) fun v13 u13 => (if v13 = 0 then (0, u13) else fx_lt (x1 + 1) fun v22 => fx_lc (f_X4_readSum_L6 u13 a0 v22) fun v23 u23 => (if v23 = 0 then (0, u23) else fx_lc (f_X4_expect u23 a0 93) fun v32 u32 => (if v32 = 0 then (0, u32) else (1, u32)))) else fx_lt (f_X11_isIn u v1 48 57) fun v49 => (if v49 = 0 then fx_lt (f_X4_isValueLetter u v1) fun v61 => (if v61 = 0 then fx_lc (f_X4_fail u a0 1) fun v69 u69 => (v69, u69) else fx_lt (u a0 2) fun v75 => fx_lt (fx_b_add v75 1) fun v79 => fx_ls (fx_pt u a0 2 v79) fun u80 => fx_lr (u80 a0 4) fun b84 => fx_lc (f_X3_add u80 b84 105 v1) fun v90 u90 => (1, u90)) else fx_lc (f_X4_readNumber u a0) fun v56 u56 => (v56, u56)))
def kB_X4_readTerm_L5_8 (rec8 : (Int → Int → fx_U → Int × fx_U)) (a0 : Nat) (x1 : Int) (p8_2 : Int) (p8_3 : Int) (w8 : fx_U) : Int × fx_U :=
  (if p8_3 < 240 then (if p8_2 = 0 then (p8_2, w8) else fx_lt (f_X4_peek w8 a0) fun v20 => fx_lt (f_X4_isTimes w8 v20) fun v23 => (if v23 = 0 then (p8_2, w8) else fx_lt (f_X4_peek w8 a0) fun v30 => fx_lt (w8 a0 2) fun v37 => fx_lt (fx_b_add v37 1) fun v41 => fx_ls (fx_pt w8 a0 2 v41) fun u42 => fx_lc (f_X4_readFactor_L5 u42 a0 x1) fun v47 u47 => fx_lr (u47 a0 4) fun b52 => fx_lc (f_X3_add u47 b52 v30 0) fun v58 u58 => fx_lt (p8_3 + 1) fun v62 => rec8 v47 v62 u58)) else (p8_2, w8))
def kL_X4_readTerm_L5_8 (a0 : Nat) (x1 : Int) : Nat → Int → Int → fx_U → Int × fx_U
  | 0, _, _, _ => (0, fun _ _ => 0)
  | n + 1, p8_2, p8_3, w8 => kB_X4_readTerm_L5_8 (kL_X4_readTerm_L5_8 a0 x1 n) a0 x1 p8_2 p8_3 w8
def f_X4_readTerm_L5 (u : fx_U) (a0 : Nat) (x1 : Int) : Int × fx_U :=
  fx_lr (u a0 0) fun at1 => fx_lc (f_X4_readFactor_L5 u a0 x1) fun v2 u2 => kL_X4_readTerm_L5_8 a0 x1 (Int.toNat (240 - 0) + 1) v2 0 u2
def kJ_X4_readSum_L5_37 (w8 : fx_U) (a0 : Nat) (x1 : Int) (p8_3 : Int) (rec8 : (Int → Int → fx_U → Int × fx_U)) : Int × fx_U :=
  fx_lt (f_X4_peek w8 a0) fun v38 => fx_lt (w8 a0 2) fun v45 => fx_lt (fx_b_add v45 1) fun v49 => fx_ls (fx_pt w8 a0 2 v49) fun u50 => fx_lc (f_X4_readTerm_L5 u50 a0 x1) fun v55 u55 => fx_lr (u55 a0 4) fun b60 => fx_lc (f_X3_add u55 b60 v38 0) fun v66 u66 => fx_lt (p8_3 + 1) fun v70 => rec8 v55 v70 u66
def kB_X4_readSum_L5_8 (rec8 : (Int → Int → fx_U → Int × fx_U)) (a0 : Nat) (x1 : Int) (p8_2 : Int) (p8_3 : Int) (w8 : fx_U) : Int × fx_U :=
  (if p8_3 < 240 then (if p8_2 = 0 then (p8_2, w8) else fx_lt (f_X4_peek w8 a0) fun v20 => (if v20 = 43 then kJ_X4_readSum_L5_37 w8 a0 x1 p8_3 rec8 else fx_lt (f_X4_peek w8 a0) fun v29 => (if v29 = 45 then kJ_X4_readSum_L5_37 w8 a0 x1 p8_3 rec8 else (p8_2, w8)))) else (p8_2, w8))
def kL_X4_readSum_L5_8 (a0 : Nat) (x1 : Int) : Nat → Int → Int → fx_U → Int × fx_U
  | 0, _, _, _ => (0, fun _ _ => 0)
  | n + 1, p8_2, p8_3, w8 => kB_X4_readSum_L5_8 (kL_X4_readSum_L5_8 a0 x1 n) a0 x1 p8_2 p8_3 w8
def f_X4_readSum_L5 (u : fx_U) (a0 : Nat) (x1 : Int) : Int × fx_U :=
  fx_lr (u a0 0) fun at1 => fx_lc (f_X4_readTerm_L5 u a0 x1) fun v2 u2 => kL_X4_readSum_L5_8 a0 x1 (Int.toNat (240 - 0) + 1) v2 0 u2
def f_X4_readFactor_L4 (u : fx_U) (a0 : Nat) (x1 : Int) : Int × fx_U :=
  fx_lr (u a0 0) fun at1 => fx_lt (f_X4_peek u a0) fun v1 => (if v1 = 91 then fx_lc (f_X4_mayOpen u a0 x1) fun v13 u13 => (if v13 = 0 then (0, u13) else fx_lt (x1 + 1) fun v22 => fx_lc (f_X4_readSum_L5 u13 a0 v22) fun v23 u23 => (if v23 = 0 then (0, u23) else fx_lc (f_X4_expect u23 a0 93) fun v32 u32 => (if v32 = 0 then (0, u32) else (1, u32)))) else fx_lt (f_X11_isIn u v1 48 57) fun v49 => (if v49 = 0 then fx_lt (f_X4_isValueLetter u v1) fun v61 => (if v61 = 0 then fx_lc (f_X4_fail u a0 1) fun v69 u69 => (v69, u69) else fx_lt (u a0 2) fun v75 => fx_lt (fx_b_add v75 1) fun v79 => fx_ls (fx_pt u a0 2 v79) fun u80 => fx_lr (u80 a0 4) fun b84 => fx_lc (f_X3_add u80 b84 105 v1) fun v90 u90 => (1, u90)) else fx_lc (f_X4_readNumber u a0) fun v56 u56 => (v56, u56)))
def kB_X4_readTerm_L4_8 (rec8 : (Int → Int → fx_U → Int × fx_U)) (a0 : Nat) (x1 : Int) (p8_2 : Int) (p8_3 : Int) (w8 : fx_U) : Int × fx_U :=
  (if p8_3 < 240 then (if p8_2 = 0 then (p8_2, w8) else fx_lt (f_X4_peek w8 a0) fun v20 => fx_lt (f_X4_isTimes w8 v20) fun v23 => (if v23 = 0 then (p8_2, w8) else fx_lt (f_X4_peek w8 a0) fun v30 => fx_lt (w8 a0 2) fun v37 => fx_lt (fx_b_add v37 1) fun v41 => fx_ls (fx_pt w8 a0 2 v41) fun u42 => fx_lc (f_X4_readFactor_L4 u42 a0 x1) fun v47 u47 => fx_lr (u47 a0 4) fun b52 => fx_lc (f_X3_add u47 b52 v30 0) fun v58 u58 => fx_lt (p8_3 + 1) fun v62 => rec8 v47 v62 u58)) else (p8_2, w8))
def kL_X4_readTerm_L4_8 (a0 : Nat) (x1 : Int) : Nat → Int → Int → fx_U → Int × fx_U
  | 0, _, _, _ => (0, fun _ _ => 0)
  | n + 1, p8_2, p8_3, w8 => kB_X4_readTerm_L4_8 (kL_X4_readTerm_L4_8 a0 x1 n) a0 x1 p8_2 p8_3 w8
def f_X4_readTerm_L4 (u : fx_U) (a0 : Nat) (x1 : Int) : Int × fx_U :=
  fx_lr (u a0 0) fun at1 => fx_lc (f_X4_readFactor_L4 u a0 x1) fun v2 u2 => kL_X4_readTerm_L4_8 a0 x1 (Int.toNat (240 - 0) + 1) v2 0 u2
def kJ_X4_readSum_L4_37 (w8 : fx_U) (a0 : Nat) (x1 : Int) (p8_3 : Int) (rec8 : (Int → Int → fx_U → Int × fx_U)) : Int × fx_U :=
  fx_lt (f_X4_peek w8 a0) fun v38 => fx_lt (w8 a0 2) fun v45 => fx_lt (fx_b_add v45 1) fun v49 => fx_ls (fx_pt w8 a0 2 v49) fun u50 => fx_lc (f_X4_readTerm_L4 u50 a0 x1) fun v55 u55 => fx_lr (u55 a0 4) fun b60 => fx_lc (f_X3_add u55 b60 v38 0) fun v66 u66 => fx_lt (p8_3 + 1) fun v70 => rec8 v55 v70 u66
def kB_X4_readSum_L4_8 (rec8 : (Int → Int → fx_U → Int × fx_U)) (a0 : Nat) (x1 : Int) (p8_2 : Int) (p8_3 : Int) (w8 : fx_U) : Int × fx_U :=
  (if p8_3 < 240 then (if p8_2 = 0 then (p8_2, w8) else fx_lt (f_X4_peek w8 a0) fun v20 => (if v20 = 43 then kJ_X4_readSum_L4_37 w8 a0 x1 p8_3 rec8 else fx_lt (f_X4_peek w8 a0) fun v29 => (if v29 = 45 then kJ_X4_readSum_L4_37 w8 a0 x1 p8_3 rec8 else (p8_2, w8)))) else (p8_2, w8))
def kL_X4_readSum_L4_8 (a0 : Nat) (x1 : Int) : Nat → Int → Int → fx_U → Int × fx_U
  | 0, _, _, _ => (0, fun _ _ => 0)
  | n + 1, p8_2, p8_3, w8 => kB_X4_readSum_L4_8 (kL_X4_readSum_L4_8 a0 x1 n) a0 x1 p8_2 p8_3 w8
def f_X4_readSum_L4 (u : fx_U) (a0 : Nat) (x1 : Int) : Int × fx_U :=
  fx_lr (u a0 0) fun at1 => fx_lc (f_X4_readTerm_L4 u a0 x1) fun v2 u2 => kL_X4_readSum_L4_8 a0 x1 (Int.toNat (240 - 0) + 1) v2 0 u2
def f_X4_readFactor_L3 (u : fx_U) (a0 : Nat) (x1 : Int) : Int × fx_U :=
  fx_lr (u a0 0) fun at1 => fx_lt (f_X4_peek u a0) fun v1 => (if v1 = 91 then fx_lc (f_X4_mayOpen u a0 x1) fun v13 u13 => (if v13 = 0 then (0, u13) else fx_lt (x1 + 1) fun v22 => fx_lc (f_X4_readSum_L4 u13 a0 v22) fun v23 u23 => (if v23 = 0 then (0, u23) else fx_lc (f_X4_expect u23 a0 93) fun v32 u32 => (if v32 = 0 then (0, u32) else (1, u32)))) else fx_lt (f_X11_isIn u v1 48 57) fun v49 => (if v49 = 0 then fx_lt (f_X4_isValueLetter u v1) fun v61 => (if v61 = 0 then fx_lc (f_X4_fail u a0 1) fun v69 u69 => (v69, u69) else fx_lt (u a0 2) fun v75 => fx_lt (fx_b_add v75 1) fun v79 => fx_ls (fx_pt u a0 2 v79) fun u80 => fx_lr (u80 a0 4) fun b84 => fx_lc (f_X3_add u80 b84 105 v1) fun v90 u90 => (1, u90)) else fx_lc (f_X4_readNumber u a0) fun v56 u56 => (v56, u56)))
def kB_X4_readTerm_L3_8 (rec8 : (Int → Int → fx_U → Int × fx_U)) (a0 : Nat) (x1 : Int) (p8_2 : Int) (p8_3 : Int) (w8 : fx_U) : Int × fx_U :=
  (if p8_3 < 240 then (if p8_2 = 0 then (p8_2, w8) else fx_lt (f_X4_peek w8 a0) fun v20 => fx_lt (f_X4_isTimes w8 v20) fun v23 => (if v23 = 0 then (p8_2, w8) else fx_lt (f_X4_peek w8 a0) fun v30 => fx_lt (w8 a0 2) fun v37 => fx_lt (fx_b_add v37 1) fun v41 => fx_ls (fx_pt w8 a0 2 v41) fun u42 => fx_lc (f_X4_readFactor_L3 u42 a0 x1) fun v47 u47 => fx_lr (u47 a0 4) fun b52 => fx_lc (f_X3_add u47 b52 v30 0) fun v58 u58 => fx_lt (p8_3 + 1) fun v62 => rec8 v47 v62 u58)) else (p8_2, w8))
def kL_X4_readTerm_L3_8 (a0 : Nat) (x1 : Int) : Nat → Int → Int → fx_U → Int × fx_U
  | 0, _, _, _ => (0, fun _ _ => 0)
  | n + 1, p8_2, p8_3, w8 => kB_X4_readTerm_L3_8 (kL_X4_readTerm_L3_8 a0 x1 n) a0 x1 p8_2 p8_3 w8
def f_X4_readTerm_L3 (u : fx_U) (a0 : Nat) (x1 : Int) : Int × fx_U :=
  fx_lr (u a0 0) fun at1 => fx_lc (f_X4_readFactor_L3 u a0 x1) fun v2 u2 => kL_X4_readTerm_L3_8 a0 x1 (Int.toNat (240 - 0) + 1) v2 0 u2
def kJ_X4_readSum_L3_37 (w8 : fx_U) (a0 : Nat) (x1 : Int) (p8_3 : Int) (rec8 : (Int → Int → fx_U → Int × fx_U)) : Int × fx_U :=
  fx_lt (f_X4_peek w8 a0) fun v38 => fx_lt (w8 a0 2) fun v45 => fx_lt (fx_b_add v45 1) fun v49 => fx_ls (fx_pt w8 a0 2 v49) fun u50 => fx_lc (f_X4_readTerm_L3 u50 a0 x1) fun v55 u55 => fx_lr (u55 a0 4) fun b60 => fx_lc (f_X3_add u55 b60 v38 0) fun v66 u66 => fx_lt (p8_3 + 1) fun v70 => rec8 v55 v70 u66
def kB_X4_readSum_L3_8 (rec8 : (Int → Int → fx_U → Int × fx_U)) (a0 : Nat) (x1 : Int) (p8_2 : Int) (p8_3 : Int) (w8 : fx_U) : Int × fx_U :=
  (if p8_3 < 240 then (if p8_2 = 0 then (p8_2, w8) else fx_lt (f_X4_peek w8 a0) fun v20 => (if v20 = 43 then kJ_X4_readSum_L3_37 w8 a0 x1 p8_3 rec8 else fx_lt (f_X4_peek w8 a0) fun v29 => (if v29 = 45 then kJ_X4_readSum_L3_37 w8 a0 x1 p8_3 rec8 else (p8_2, w8)))) else (p8_2, w8))
def kL_X4_readSum_L3_8 (a0 : Nat) (x1 : Int) : Nat → Int → Int → fx_U → Int × fx_U
  | 0, _, _, _ => (0, fun _ _ => 0)
  | n + 1, p8_2, p8_3, w8 => kB_X4_readSum_L3_8 (kL_X4_readSum_L3_8 a0 x1 n) a0 x1 p8_2 p8_3 w8
def f_X4_readSum_L3 (u : fx_U) (a0 : Nat) (x1 : Int) : Int × fx_U :=
  fx_lr (u a0 0) fun at1 => fx_lc (f_X4_readTerm_L3 u a0 x1) fun v2 u2 => kL_X4_readSum_L3_8 a0 x1 (Int.toNat (240 - 0) + 1) v2 0 u2
def f_X4_readFactor_L2 (u : fx_U) (a0 : Nat) (x1 : Int) : Int × fx_U :=
  fx_lr (u a0 0) fun at1 => fx_lt (f_X4_peek u a0) fun v1 => (if v1 = 91 then fx_lc (f_X4_mayOpen u a0 x1) fun v13 u13 => (if v13 = 0 then (0, u13) else fx_lt (x1 + 1) fun v22 => fx_lc (f_X4_readSum_L3 u13 a0 v22) fun v23 u23 => (if v23 = 0 then (0, u23) else fx_lc (f_X4_expect u23 a0 93) fun v32 u32 => (if v32 = 0 then (0, u32) else (1, u32)))) else fx_lt (f_X11_isIn u v1 48 57) fun v49 => (if v49 = 0 then fx_lt (f_X4_isValueLetter u v1) fun v61 => (if v61 = 0 then fx_lc (f_X4_fail u a0 1) fun v69 u69 => (v69, u69) else fx_lt (u a0 2) fun v75 => fx_lt (fx_b_add v75 1) fun v79 => fx_ls (fx_pt u a0 2 v79) fun u80 => fx_lr (u80 a0 4) fun b84 => fx_lc (f_X3_add u80 b84 105 v1) fun v90 u90 => (1, u90)) else fx_lc (f_X4_readNumber u a0) fun v56 u56 => (v56, u56)))
def kB_X4_readTerm_L2_8 (rec8 : (Int → Int → fx_U → Int × fx_U)) (a0 : Nat) (x1 : Int) (p8_2 : Int) (p8_3 : Int) (w8 : fx_U) : Int × fx_U :=
  (if p8_3 < 240 then (if p8_2 = 0 then (p8_2, w8) else fx_lt (f_X4_peek w8 a0) fun v20 => fx_lt (f_X4_isTimes w8 v20) fun v23 => (if v23 = 0 then (p8_2, w8) else fx_lt (f_X4_peek w8 a0) fun v30 => fx_lt (w8 a0 2) fun v37 => fx_lt (fx_b_add v37 1) fun v41 => fx_ls (fx_pt w8 a0 2 v41) fun u42 => fx_lc (f_X4_readFactor_L2 u42 a0 x1) fun v47 u47 => fx_lr (u47 a0 4) fun b52 => fx_lc (f_X3_add u47 b52 v30 0) fun v58 u58 => fx_lt (p8_3 + 1) fun v62 => rec8 v47 v62 u58)) else (p8_2, w8))
def kL_X4_readTerm_L2_8 (a0 : Nat) (x1 : Int) : Nat → Int → Int → fx_U → Int × fx_U
  | 0, _, _, _ => (0, fun _ _ => 0)
  | n + 1, p8_2, p8_3, w8 => kB_X4_readTerm_L2_8 (kL_X4_readTerm_L2_8 a0 x1 n) a0 x1 p8_2 p8_3 w8
def f_X4_readTerm_L2 (u : fx_U) (a0 : Nat) (x1 : Int) : Int × fx_U :=
  fx_lr (u a0 0) fun at1 => fx_lc (f_X4_readFactor_L2 u a0 x1) fun v2 u2 => kL_X4_readTerm_L2_8 a0 x1 (Int.toNat (240 - 0) + 1) v2 0 u2
def kJ_X4_readSum_L2_37 (w8 : fx_U) (a0 : Nat) (x1 : Int) (p8_3 : Int) (rec8 : (Int → Int → fx_U → Int × fx_U)) : Int × fx_U :=
  fx_lt (f_X4_peek w8 a0) fun v38 => fx_lt (w8 a0 2) fun v45 => fx_lt (fx_b_add v45 1) fun v49 => fx_ls (fx_pt w8 a0 2 v49) fun u50 => fx_lc (f_X4_readTerm_L2 u50 a0 x1) fun v55 u55 => fx_lr (u55 a0 4) fun b60 => fx_lc (f_X3_add u55 b60 v38 0) fun v66 u66 => fx_lt (p8_3 + 1) fun v70 => rec8 v55 v70 u66
def kB_X4_readSum_L2_8 (rec8 : (Int → Int → fx_U → Int × fx_U)) (a0 : Nat) (x1 : Int) (p8_2 : Int) (p8_3 : Int) (w8 : fx_U) : Int × fx_U :=
  (if p8_3 < 240 then (if p8_2 = 0 then (p8_2, w8) else fx_lt (f_X4_peek w8 a0) fun v20 => (if v20 = 43 then kJ_X4_readSum_L2_37 w8 a0 x1 p8_3 rec8 else fx_lt (f_X4_peek w8 a0) fun v29 => (if v29 = 45 then kJ_X4_readSum_L2_37 w8 a0 x1 p8_3 rec8 else (p8_2, w8)))) else (p8_2, w8))
def kL_X4_readSum_L2_8 (a0 : Nat) (x1 : Int) : Nat → Int → Int → fx_U → Int × fx_U
  | 0, _, _, _ => (0, fun _ _ => 0)
  | n + 1, p8_2, p8_3, w8 => kB_X4_readSum_L2_8 (kL_X4_readSum_L2_8 a0 x1 n) a0 x1 p8_2 p8_3 w8
def f_X4_readSum_L2 (u : fx_U) (a0 : Nat) (x1 : Int) : Int × fx_U :=
  fx_lr (u a0 0) fun at1 => fx_lc (f_X4_readTerm_L2 u a0 x1) fun v2 u2 => kL_X4_readSum_L2_8 a0 x1 (Int.toNat (240 - 0) + 1) v2 0 u2
def f_X4_readFactor_L1 (u : fx_U) (a0 : Nat) (x1 : Int) : Int × fx_U :=
  fx_lr (u a0 0) fun at1 => fx_lt (f_X4_peek u a0) fun v1 => (if v1 = 91 then fx_lc (f_X4_mayOpen u a0 x1) fun v13 u13 => (if v13 = 0 then (0, u13) else fx_lt (x1 + 1) fun v22 => fx_lc (f_X4_readSum_L2 u13 a0 v22) fun v23 u23 => (if v23 = 0 then (0, u23) else fx_lc (f_X4_expect u23 a0 93) fun v32 u32 => (if v32 = 0 then (0, u32) else (1, u32)))) else fx_lt (f_X11_isIn u v1 48 57) fun v49 => (if v49 = 0 then fx_lt (f_X4_isValueLetter u v1) fun v61 => (if v61 = 0 then fx_lc (f_X4_fail u a0 1) fun v69 u69 => (v69, u69) else fx_lt (u a0 2) fun v75 => fx_lt (fx_b_add v75 1) fun v79 => fx_ls (fx_pt u a0 2 v79) fun u80 => fx_lr (u80 a0 4) fun b84 => fx_lc (f_X3_add u80 b84 105 v1) fun v90 u90 => (1, u90)) else fx_lc (f_X4_readNumber u a0) fun v56 u56 => (v56, u56)))
def kB_X4_readTerm_L1_8 (rec8 : (Int → Int → fx_U → Int × fx_U)) (a0 : Nat) (x1 : Int) (p8_2 : Int) (p8_3 : Int) (w8 : fx_U) : Int × fx_U :=
  (if p8_3 < 240 then (if p8_2 = 0 then (p8_2, w8) else fx_lt (f_X4_peek w8 a0) fun v20 => fx_lt (f_X4_isTimes w8 v20) fun v23 => (if v23 = 0 then (p8_2, w8) else fx_lt (f_X4_peek w8 a0) fun v30 => fx_lt (w8 a0 2) fun v37 => fx_lt (fx_b_add v37 1) fun v41 => fx_ls (fx_pt w8 a0 2 v41) fun u42 => fx_lc (f_X4_readFactor_L1 u42 a0 x1) fun v47 u47 => fx_lr (u47 a0 4) fun b52 => fx_lc (f_X3_add u47 b52 v30 0) fun v58 u58 => fx_lt (p8_3 + 1) fun v62 => rec8 v47 v62 u58)) else (p8_2, w8))
def kL_X4_readTerm_L1_8 (a0 : Nat) (x1 : Int) : Nat → Int → Int → fx_U → Int × fx_U
  | 0, _, _, _ => (0, fun _ _ => 0)
  | n + 1, p8_2, p8_3, w8 => kB_X4_readTerm_L1_8 (kL_X4_readTerm_L1_8 a0 x1 n) a0 x1 p8_2 p8_3 w8
def f_X4_readTerm_L1 (u : fx_U) (a0 : Nat) (x1 : Int) : Int × fx_U :=
  fx_lr (u a0 0) fun at1 => fx_lc (f_X4_readFactor_L1 u a0 x1) fun v2 u2 => kL_X4_readTerm_L1_8 a0 x1 (Int.toNat (240 - 0) + 1) v2 0 u2
def kJ_X4_readSum_L1_37 (w8 : fx_U) (a0 : Nat) (x1 : Int) (p8_3 : Int) (rec8 : (Int → Int → fx_U → Int × fx_U)) : Int × fx_U :=
  fx_lt (f_X4_peek w8 a0) fun v38 => fx_lt (w8 a0 2) fun v45 => fx_lt (fx_b_add v45 1) fun v49 => fx_ls (fx_pt w8 a0 2 v49) fun u50 => fx_lc (f_X4_readTerm_L1 u50 a0 x1) fun v55 u55 => fx_lr (u55 a0 4) fun b60 => fx_lc (f_X3_add u55 b60 v38 0) fun v66 u66 => fx_lt (p8_3 + 1) fun v70 => rec8 v55 v70 u66
def kB_X4_readSum_L1_8 (rec8 : (Int → Int → fx_U → Int × fx_U)) (a0 : Nat) (x1 : Int) (p8_2 : Int) (p8_3 : Int) (w8 : fx_U) : Int × fx_U :=
  (if p8_3 < 240 then (if p8_2 = 0 then (p8_2, w8) else fx_lt (f_X4_peek w8 a0) fun v20 => (if v20 = 43 then kJ_X4_readSum_L1_37 w8 a0 x1 p8_3 rec8 else fx_lt (f_X4_peek w8 a0) fun v29 => (if v29 = 45 then kJ_X4_readSum_L1_37 w8 a0 x1 p8_3 rec8 else (p8_2, w8)))) else (p8_2, w8))
def kL_X4_readSum_L1_8 (a0 : Nat) (x1 : Int) : Nat → Int → Int → fx_U → Int × fx_U
  | 0, _, _, _ => (0, fun _ _ => 0)
  | n + 1, p8_2, p8_3, w8 => kB_X4_readSum_L1_8 (kL_X4_readSum_L1_8 a0 x1 n) a0 x1 p8_2 p8_3 w8
def f_X4_readSum_L1 (u : fx_U) (a0 : Nat) (x1 : Int) : Int × fx_U :=
  fx_lr (u a0 0) fun at1 => fx_lc (f_X4_readTerm_L1 u a0 x1) fun v2 u2 => kL_X4_readSum_L1_8 a0 x1 (Int.toNat (240 - 0) + 1) v2 0 u2
def f_X4_readFactor_L0 (u : fx_U) (a0 : Nat) (x1 : Int) : Int × fx_U :=
  fx_lr (u a0 0) fun at1 => fx_lt (f_X4_peek u a0) fun v1 => (if v1 = 91 then fx_lc (f_X4_mayOpen u a0 x1) fun v13 u13 => (if v13 = 0 then (0, u13) else fx_lt (x1 + 1) fun v22 => fx_lc (f_X4_readSum_L1 u13 a0 v22) fun v23 u23 => (if v23 = 0 then (0, u23) else fx_lc (f_X4_expect u23 a0 93) fun v32 u32 => (if v32 = 0 then (0, u32) else (1, u32)))) else fx_lt (f_X11_isIn u v1 48 57) fun v49 => (if v49 = 0 then fx_lt (f_X4_isValueLetter u v1) fun v61 => (if v61 = 0 then fx_lc (f_X4_fail u a0 1) fun v69 u69 => (v69, u69) else fx_lt (u a0 2) fun v75 => fx_lt (fx_b_add v75 1) fun v79 => fx_ls (fx_pt u a0 2 v79) fun u80 => fx_lr (u80 a0 4) fun b84 => fx_lc (f_X3_add u80 b84 105 v1) fun v90 u90 => (1, u90)) else fx_lc (f_X4_readNumber u a0) fun v56 u56 => (v56, u56)))
def kB_X4_readTerm_L0_8 (rec8 : (Int → Int → fx_U → Int × fx_U)) (a0 : Nat) (x1 : Int) (p8_2 : Int) (p8_3 : Int) (w8 : fx_U) : Int × fx_U :=
  (if p8_3 < 240 then (if p8_2 = 0 then (p8_2, w8) else fx_lt (f_X4_peek w8 a0) fun v20 => fx_lt (f_X4_isTimes w8 v20) fun v23 => (if v23 = 0 then (p8_2, w8) else fx_lt (f_X4_peek w8 a0) fun v30 => fx_lt (w8 a0 2) fun v37 => fx_lt (fx_b_add v37 1) fun v41 => fx_ls (fx_pt w8 a0 2 v41) fun u42 => fx_lc (f_X4_readFactor_L0 u42 a0 x1) fun v47 u47 => fx_lr (u47 a0 4) fun b52 => fx_lc (f_X3_add u47 b52 v30 0) fun v58 u58 => fx_lt (p8_3 + 1) fun v62 => rec8 v47 v62 u58)) else (p8_2, w8))
def kL_X4_readTerm_L0_8 (a0 : Nat) (x1 : Int) : Nat → Int → Int → fx_U → Int × fx_U
  | 0, _, _, _ => (0, fun _ _ => 0)
  | n + 1, p8_2, p8_3, w8 => kB_X4_readTerm_L0_8 (kL_X4_readTerm_L0_8 a0 x1 n) a0 x1 p8_2 p8_3 w8
def f_X4_readTerm_L0 (u : fx_U) (a0 : Nat) (x1 : Int) : Int × fx_U :=
  fx_lr (u a0 0) fun at1 => fx_lc (f_X4_readFactor_L0 u a0 x1) fun v2 u2 => kL_X4_readTerm_L0_8 a0 x1 (Int.toNat (240 - 0) + 1) v2 0 u2
def kJ_X4_readSum_L0_37 (w8 : fx_U) (a0 : Nat) (x1 : Int) (p8_3 : Int) (rec8 : (Int → Int → fx_U → Int × fx_U)) : Int × fx_U :=
  fx_lt (f_X4_peek w8 a0) fun v38 => fx_lt (w8 a0 2) fun v45 => fx_lt (fx_b_add v45 1) fun v49 => fx_ls (fx_pt w8 a0 2 v49) fun u50 => fx_lc (f_X4_readTerm_L0 u50 a0 x1) fun v55 u55 => fx_lr (u55 a0 4) fun b60 => fx_lc (f_X3_add u55 b60 v38 0) fun v66 u66 => fx_lt (p8_3 + 1) fun v70 => rec8 v55 v70 u66
def kB_X4_readSum_L0_8 (rec8 : (Int → Int → fx_U → Int × fx_U)) (a0 : Nat) (x1 : Int) (p8_2 : Int) (p8_3 : Int) (w8 : fx_U) : Int × fx_U :=
  (if p8_3 < 240 then (if p8_2 = 0 then (p8_2, w8) else fx_lt (f_X4_peek w8 a0) fun v20 => (if v20 = 43 then kJ_X4_readSum_L0_37 w8 a0 x1 p8_3 rec8 else fx_lt (f_X4_peek w8 a0) fun v29 => (if v29 = 45 then kJ_X4_readSum_L0_37 w8 a0 x1 p8_3 rec8 else (p8_2, w8)))) else (p8_2, w8))
def kL_X4_readSum_L0_8 (a0 : Nat) (x1 : Int) : Nat → Int → Int → fx_U → Int × fx_U
  | 0, _, _, _ => (0, fun _ _ => 0)
  | n + 1, p8_2, p8_3, w8 => kB_X4_readSum_L0_8 (kL_X4_readSum_L0_8 a0 x1 n) a0 x1 p8_2 p8_3 w8
def f_X4_readSum_L0 (u : fx_U) (a0 : Nat) (x1 : Int) : Int × fx_U :=
  fx_lr (u a0 0) fun at1 => fx_lc (f_X4_readTerm_L0 u a0 x1) fun v2 u2 => kL_X4_readSum_L0_8 a0 x1 (Int.toNat (240 - 0) + 1) v2 0 u2
def kJ_X4_readPiece_L6_123 (u86 : fx_U) (a0 : Nat) (x1 : Int) (v95 : Int) : Int × fx_U :=
  fx_lt (u86 a0 2) fun v125 => fx_lt (fx_b_add v125 1) fun v129 => fx_ls (fx_pt u86 a0 2 v129) fun u130 => fx_lc (f_X4_readSum_L6 u130 a0 x1) fun v135 u135 => (if v135 = 0 then (0, u135) else fx_lr (u135 a0 4) fun b144 => fx_lc (f_X3_add u135 b144 v95 0) fun v149 u149 => (1, u149))
def f_X4_readPiece_L6 (u : fx_U) (a0 : Nat) (x1 : Int) : Int × fx_U :=
  fx_lr (u a0 0) fun at1 => fx_lt (f_X4_peek u a0) fun v1 => (if v1 = 33 then fx_lc (f_X4_mayOpen u a0 x1) fun v11 u11 => (if v11 = 0 then (0, u11) else (0, fun _ _ => 0)) else fx_lt (f_X4_peek u a0) fun v43 => (if v43 = 40 then fx_lc (f_X4_mayOpen u a0 x1) fun v53 u53 => (if v53 = 0 then (0, u53) else (0, fun _ _ => 0)) else fx_lc (f_X4_readSum_L6 u a0 x1) fun v86 u86 => (if v86 = 0 then (0, u86) else fx_lt (f_X4_peek u86 a0) fun v95 => (if v95 = 60 then kJ_X4_readPiece_L6_123 u86 a0 x1 v95 else (if v95 = 62 then kJ_X4_readPiece_L6_123 u86 a0 x1 v95 else (if v95 = 61 then kJ_X4_readPiece_L6_123 u86 a0 x1 v95 else fx_lc (f_X4_fail u86 a0 1) fun v119 u119 => (v119, u119)))))))
def kB_X4_readPart_L6_8 (rec8 : (Int → Int → fx_U → Int × fx_U)) (a0 : Nat) (x1 : Int) (p8_2 : Int) (p8_3 : Int) (w8 : fx_U) : Int × fx_U :=
  (if p8_3 < 240 then (if p8_2 = 0 then (p8_2, w8) else fx_lt (f_X4_peek w8 a0) fun v20 => (if v20 = 38 then fx_lt (w8 a0 2) fun v30 => fx_lt (fx_b_add v30 1) fun v34 => fx_ls (fx_pt w8 a0 2 v34) fun u35 => fx_lr (u35 a0 4) fun b39 => fx_lc (f_X3_add u35 b39 38 0) fun v45 u45 => fx_lc (f_X4_readPiece_L6 u45 a0 x1) fun v52 u52 => fx_ls (f_X3_leadHere u52 b39 v45) fun u62 => fx_lt (p8_3 + 1) fun v65 => rec8 v52 v65 u62 else (p8_2, w8))) else (p8_2, w8))
def kL_X4_readPart_L6_8 (a0 : Nat) (x1 : Int) : Nat → Int → Int → fx_U → Int × fx_U
  | 0, _, _, _ => (0, fun _ _ => 0)
  | n + 1, p8_2, p8_3, w8 => kB_X4_readPart_L6_8 (kL_X4_readPart_L6_8 a0 x1 n) a0 x1 p8_2 p8_3 w8
def f_X4_readPart_L6 (u : fx_U) (a0 : Nat) (x1 : Int) : Int × fx_U :=
  fx_lr (u a0 0) fun at1 => fx_lc (f_X4_readPiece_L6 u a0 x1) fun v2 u2 => kL_X4_readPart_L6_8 a0 x1 (Int.toNat (240 - 0) + 1) v2 0 u2
def kB_X4_readParts_L6_8 (rec8 : (Int → Int → fx_U → Int × fx_U)) (a0 : Nat) (x1 : Int) (p8_2 : Int) (p8_3 : Int) (w8 : fx_U) : Int × fx_U :=
  (if p8_3 < 240 then (if p8_2 = 0 then (p8_2, w8) else fx_lt (f_X4_peek w8 a0) fun v20 => (if v20 = 124 then fx_lt (w8 a0 2) fun v30 => fx_lt (fx_b_add v30 1) fun v34 => fx_ls (fx_pt w8 a0 2 v34) fun u35 => fx_lr (u35 a0 4) fun b39 => fx_lc (f_X3_add u35 b39 124 0) fun v45 u45 => fx_lc (f_X4_readPart_L6 u45 a0 x1) fun v52 u52 => fx_ls (f_X3_leadHere u52 b39 v45) fun u62 => fx_lt (p8_3 + 1) fun v65 => rec8 v52 v65 u62 else (p8_2, w8))) else (p8_2, w8))
def kL_X4_readParts_L6_8 (a0 : Nat) (x1 : Int) : Nat → Int → Int → fx_U → Int × fx_U
  | 0, _, _, _ => (0, fun _ _ => 0)
  | n + 1, p8_2, p8_3, w8 => kB_X4_readParts_L6_8 (kL_X4_readParts_L6_8 a0 x1 n) a0 x1 p8_2 p8_3 w8
def f_X4_readParts_L6 (u : fx_U) (a0 : Nat) (x1 : Int) : Int × fx_U :=
  fx_lr (u a0 0) fun at1 => fx_lc (f_X4_readPart_L6 u a0 x1) fun v2 u2 => kL_X4_readParts_L6_8 a0 x1 (Int.toNat (240 - 0) + 1) v2 0 u2
def kJ_X4_readPiece_L5_123 (u86 : fx_U) (a0 : Nat) (x1 : Int) (v95 : Int) : Int × fx_U :=
  fx_lt (u86 a0 2) fun v125 => fx_lt (fx_b_add v125 1) fun v129 => fx_ls (fx_pt u86 a0 2 v129) fun u130 => fx_lc (f_X4_readSum_L5 u130 a0 x1) fun v135 u135 => (if v135 = 0 then (0, u135) else fx_lr (u135 a0 4) fun b144 => fx_lc (f_X3_add u135 b144 v95 0) fun v149 u149 => (1, u149))
def f_X4_readPiece_L5 (u : fx_U) (a0 : Nat) (x1 : Int) : Int × fx_U :=
  fx_lr (u a0 0) fun at1 => fx_lt (f_X4_peek u a0) fun v1 => (if v1 = 33 then fx_lc (f_X4_mayOpen u a0 x1) fun v11 u11 => (if v11 = 0 then (0, u11) else fx_lt (x1 + 1) fun v20 => fx_lc (f_X4_readPiece_L6 u11 a0 v20) fun v21 u21 => (if v21 = 0 then (0, u21) else fx_lr (u21 a0 4) fun b30 => fx_lc (f_X3_add u21 b30 33 0) fun v36 u36 => (1, u36))) else fx_lt (f_X4_peek u a0) fun v43 => (if v43 = 40 then fx_lc (f_X4_mayOpen u a0 x1) fun v53 u53 => (if v53 = 0 then (0, u53) else fx_lt (x1 + 1) fun v62 => fx_lc (f_X4_readParts_L6 u53 a0 v62) fun v63 u63 => (if v63 = 0 then (0, u63) else fx_lc (f_X4_expect u63 a0 41) fun v72 u72 => (if v72 = 0 then (0, u72) else (1, u72)))) else fx_lc (f_X4_readSum_L5 u a0 x1) fun v86 u86 => (if v86 = 0 then (0, u86) else fx_lt (f_X4_peek u86 a0) fun v95 => (if v95 = 60 then kJ_X4_readPiece_L5_123 u86 a0 x1 v95 else (if v95 = 62 then kJ_X4_readPiece_L5_123 u86 a0 x1 v95 else (if v95 = 61 then kJ_X4_readPiece_L5_123 u86 a0 x1 v95 else fx_lc (f_X4_fail u86 a0 1) fun v119 u119 => (v119, u119)))))))
def kB_X4_readPart_L5_8 (rec8 : (Int → Int → fx_U → Int × fx_U)) (a0 : Nat) (x1 : Int) (p8_2 : Int) (p8_3 : Int) (w8 : fx_U) : Int × fx_U :=
  (if p8_3 < 240 then (if p8_2 = 0 then (p8_2, w8) else fx_lt (f_X4_peek w8 a0) fun v20 => (if v20 = 38 then fx_lt (w8 a0 2) fun v30 => fx_lt (fx_b_add v30 1) fun v34 => fx_ls (fx_pt w8 a0 2 v34) fun u35 => fx_lr (u35 a0 4) fun b39 => fx_lc (f_X3_add u35 b39 38 0) fun v45 u45 => fx_lc (f_X4_readPiece_L5 u45 a0 x1) fun v52 u52 => fx_ls (f_X3_leadHere u52 b39 v45) fun u62 => fx_lt (p8_3 + 1) fun v65 => rec8 v52 v65 u62 else (p8_2, w8))) else (p8_2, w8))
def kL_X4_readPart_L5_8 (a0 : Nat) (x1 : Int) : Nat → Int → Int → fx_U → Int × fx_U
  | 0, _, _, _ => (0, fun _ _ => 0)
  | n + 1, p8_2, p8_3, w8 => kB_X4_readPart_L5_8 (kL_X4_readPart_L5_8 a0 x1 n) a0 x1 p8_2 p8_3 w8
def f_X4_readPart_L5 (u : fx_U) (a0 : Nat) (x1 : Int) : Int × fx_U :=
  fx_lr (u a0 0) fun at1 => fx_lc (f_X4_readPiece_L5 u a0 x1) fun v2 u2 => kL_X4_readPart_L5_8 a0 x1 (Int.toNat (240 - 0) + 1) v2 0 u2
def kB_X4_readParts_L5_8 (rec8 : (Int → Int → fx_U → Int × fx_U)) (a0 : Nat) (x1 : Int) (p8_2 : Int) (p8_3 : Int) (w8 : fx_U) : Int × fx_U :=
  (if p8_3 < 240 then (if p8_2 = 0 then (p8_2, w8) else fx_lt (f_X4_peek w8 a0) fun v20 => (if v20 = 124 then fx_lt (w8 a0 2) fun v30 => fx_lt (fx_b_add v30 1) fun v34 => fx_ls (fx_pt w8 a0 2 v34) fun u35 => fx_lr (u35 a0 4) fun b39 => fx_lc (f_X3_add u35 b39 124 0) fun v45 u45 => fx_lc (f_X4_readPart_L5 u45 a0 x1) fun v52 u52 => fx_ls (f_X3_leadHere u52 b39 v45) fun u62 => fx_lt (p8_3 + 1) fun v65 => rec8 v52 v65 u62 else (p8_2, w8))) else (p8_2, w8))
def kL_X4_readParts_L5_8 (a0 : Nat) (x1 : Int) : Nat → Int → Int → fx_U → Int × fx_U
  | 0, _, _, _ => (0, fun _ _ => 0)
  | n + 1, p8_2, p8_3, w8 => kB_X4_readParts_L5_8 (kL_X4_readParts_L5_8 a0 x1 n) a0 x1 p8_2 p8_3 w8
def f_X4_readParts_L5 (u : fx_U) (a0 : Nat) (x1 : Int) : Int × fx_U :=
  fx_lr (u a0 0) fun at1 => fx_lc (f_X4_readPart_L5 u a0 x1) fun v2 u2 => kL_X4_readParts_L5_8 a0 x1 (Int.toNat (240 - 0) + 1) v2 0 u2
def kJ_X4_readPiece_L4_123 (u86 : fx_U) (a0 : Nat) (x1 : Int) (v95 : Int) : Int × fx_U :=
  fx_lt (u86 a0 2) fun v125 => fx_lt (fx_b_add v125 1) fun v129 => fx_ls (fx_pt u86 a0 2 v129) fun u130 => fx_lc (f_X4_readSum_L4 u130 a0 x1) fun v135 u135 => (if v135 = 0 then (0, u135) else fx_lr (u135 a0 4) fun b144 => fx_lc (f_X3_add u135 b144 v95 0) fun v149 u149 => (1, u149))
def f_X4_readPiece_L4 (u : fx_U) (a0 : Nat) (x1 : Int) : Int × fx_U :=
  fx_lr (u a0 0) fun at1 => fx_lt (f_X4_peek u a0) fun v1 => (if v1 = 33 then fx_lc (f_X4_mayOpen u a0 x1) fun v11 u11 => (if v11 = 0 then (0, u11) else fx_lt (x1 + 1) fun v20 => fx_lc (f_X4_readPiece_L5 u11 a0 v20) fun v21 u21 => (if v21 = 0 then (0, u21) else fx_lr (u21 a0 4) fun b30 => fx_lc (f_X3_add u21 b30 33 0) fun v36 u36 => (1, u36))) else fx_lt (f_X4_peek u a0) fun v43 => (if v43 = 40 then fx_lc (f_X4_mayOpen u a0 x1) fun v53 u53 => (if v53 = 0 then (0, u53) else fx_lt (x1 + 1) fun v62 => fx_lc (f_X4_readParts_L5 u53 a0 v62) fun v63 u63 => (if v63 = 0 then (0, u63) else fx_lc (f_X4_expect u63 a0 41) fun v72 u72 => (if v72 = 0 then (0, u72) else (1, u72)))) else fx_lc (f_X4_readSum_L4 u a0 x1) fun v86 u86 => (if v86 = 0 then (0, u86) else fx_lt (f_X4_peek u86 a0) fun v95 => (if v95 = 60 then kJ_X4_readPiece_L4_123 u86 a0 x1 v95 else (if v95 = 62 then kJ_X4_readPiece_L4_123 u86 a0 x1 v95 else (if v95 = 61 then kJ_X4_readPiece_L4_123 u86 a0 x1 v95 else fx_lc (f_X4_fail u86 a0 1) fun v119 u119 => (v119, u119)))))))
def kB_X4_readPart_L4_8 (rec8 : (Int → Int → fx_U → Int × fx_U)) (a0 : Nat) (x1 : Int) (p8_2 : Int) (p8_3 : Int) (w8 : fx_U) : Int × fx_U :=
  (if p8_3 < 240 then (if p8_2 = 0 then (p8_2, w8) else fx_lt (f_X4_peek w8 a0) fun v20 => (if v20 = 38 then fx_lt (w8 a0 2) fun v30 => fx_lt (fx_b_add v30 1) fun v34 => fx_ls (fx_pt w8 a0 2 v34) fun u35 => fx_lr (u35 a0 4) fun b39 => fx_lc (f_X3_add u35 b39 38 0) fun v45 u45 => fx_lc (f_X4_readPiece_L4 u45 a0 x1) fun v52 u52 => fx_ls (f_X3_leadHere u52 b39 v45) fun u62 => fx_lt (p8_3 + 1) fun v65 => rec8 v52 v65 u62 else (p8_2, w8))) else (p8_2, w8))
def kL_X4_readPart_L4_8 (a0 : Nat) (x1 : Int) : Nat → Int → Int → fx_U → Int × fx_U
  | 0, _, _, _ => (0, fun _ _ => 0)
  | n + 1, p8_2, p8_3, w8 => kB_X4_readPart_L4_8 (kL_X4_readPart_L4_8 a0 x1 n) a0 x1 p8_2 p8_3 w8
def f_X4_readPart_L4 (u : fx_U) (a0 : Nat) (x1 : Int) : Int × fx_U :=
  fx_lr (u a0 0) fun at1 => fx_lc (f_X4_readPiece_L4 u a0 x1) fun v2 u2 => kL_X4_readPart_L4_8 a0 x1 (Int.toNat (240 - 0) + 1) v2 0 u2
def kB_X4_readParts_L4_8 (rec8 : (Int → Int → fx_U → Int × fx_U)) (a0 : Nat) (x1 : Int) (p8_2 : Int) (p8_3 : Int) (w8 : fx_U) : Int × fx_U :=
  (if p8_3 < 240 then (if p8_2 = 0 then (p8_2, w8) else fx_lt (f_X4_peek w8 a0) fun v20 => (if v20 = 124 then fx_lt (w8 a0 2) fun v30 => fx_lt (fx_b_add v30 1) fun v34 => fx_ls (fx_pt w8 a0 2 v34) fun u35 => fx_lr (u35 a0 4) fun b39 => fx_lc (f_X3_add u35 b39 124 0) fun v45 u45 => fx_lc (f_X4_readPart_L4 u45 a0 x1) fun v52 u52 => fx_ls (f_X3_leadHere u52 b39 v45) fun u62 => fx_lt (p8_3 + 1) fun v65 => rec8 v52 v65 u62 else (p8_2, w8))) else (p8_2, w8))
def kL_X4_readParts_L4_8 (a0 : Nat) (x1 : Int) : Nat → Int → Int → fx_U → Int × fx_U
  | 0, _, _, _ => (0, fun _ _ => 0)
  | n + 1, p8_2, p8_3, w8 => kB_X4_readParts_L4_8 (kL_X4_readParts_L4_8 a0 x1 n) a0 x1 p8_2 p8_3 w8
def f_X4_readParts_L4 (u : fx_U) (a0 : Nat) (x1 : Int) : Int × fx_U :=
  fx_lr (u a0 0) fun at1 => fx_lc (f_X4_readPart_L4 u a0 x1) fun v2 u2 => kL_X4_readParts_L4_8 a0 x1 (Int.toNat (240 - 0) + 1) v2 0 u2
def kJ_X4_readPiece_L3_123 (u86 : fx_U) (a0 : Nat) (x1 : Int) (v95 : Int) : Int × fx_U :=
  fx_lt (u86 a0 2) fun v125 => fx_lt (fx_b_add v125 1) fun v129 => fx_ls (fx_pt u86 a0 2 v129) fun u130 => fx_lc (f_X4_readSum_L3 u130 a0 x1) fun v135 u135 => (if v135 = 0 then (0, u135) else fx_lr (u135 a0 4) fun b144 => fx_lc (f_X3_add u135 b144 v95 0) fun v149 u149 => (1, u149))
def f_X4_readPiece_L3 (u : fx_U) (a0 : Nat) (x1 : Int) : Int × fx_U :=
  fx_lr (u a0 0) fun at1 => fx_lt (f_X4_peek u a0) fun v1 => (if v1 = 33 then fx_lc (f_X4_mayOpen u a0 x1) fun v11 u11 => (if v11 = 0 then (0, u11) else fx_lt (x1 + 1) fun v20 => fx_lc (f_X4_readPiece_L4 u11 a0 v20) fun v21 u21 => (if v21 = 0 then (0, u21) else fx_lr (u21 a0 4) fun b30 => fx_lc (f_X3_add u21 b30 33 0) fun v36 u36 => (1, u36))) else fx_lt (f_X4_peek u a0) fun v43 => (if v43 = 40 then fx_lc (f_X4_mayOpen u a0 x1) fun v53 u53 => (if v53 = 0 then (0, u53) else fx_lt (x1 + 1) fun v62 => fx_lc (f_X4_readParts_L4 u53 a0 v62) fun v63 u63 => (if v63 = 0 then (0, u63) else fx_lc (f_X4_expect u63 a0 41) fun v72 u72 => (if v72 = 0 then (0, u72) else (1, u72)))) else fx_lc (f_X4_readSum_L3 u a0 x1) fun v86 u86 => (if v86 = 0 then (0, u86) else fx_lt (f_X4_peek u86 a0) fun v95 => (if v95 = 60 then kJ_X4_readPiece_L3_123 u86 a0 x1 v95 else (if v95 = 62 then kJ_X4_readPiece_L3_123 u86 a0 x1 v95 else (if v95 = 61 then kJ_X4_readPiece_L3_123 u86 a0 x1 v95 else fx_lc (f_X4_fail u86 a0 1) fun v119 u119 => (v119, u119)))))))
def kB_X4_readPart_L3_8 (rec8 : (Int → Int → fx_U → Int × fx_U)) (a0 : Nat) (x1 : Int) (p8_2 : Int) (p8_3 : Int) (w8 : fx_U) : Int × fx_U :=
  (if p8_3 < 240 then (if p8_2 = 0 then (p8_2, w8) else fx_lt (f_X4_peek w8 a0) fun v20 => (if v20 = 38 then fx_lt (w8 a0 2) fun v30 => fx_lt (fx_b_add v30 1) fun v34 => fx_ls (fx_pt w8 a0 2 v34) fun u35 => fx_lr (u35 a0 4) fun b39 => fx_lc (f_X3_add u35 b39 38 0) fun v45 u45 => fx_lc (f_X4_readPiece_L3 u45 a0 x1) fun v52 u52 => fx_ls (f_X3_leadHere u52 b39 v45) fun u62 => fx_lt (p8_3 + 1) fun v65 => rec8 v52 v65 u62 else (p8_2, w8))) else (p8_2, w8))
def kL_X4_readPart_L3_8 (a0 : Nat) (x1 : Int) : Nat → Int → Int → fx_U → Int × fx_U
  | 0, _, _, _ => (0, fun _ _ => 0)
  | n + 1, p8_2, p8_3, w8 => kB_X4_readPart_L3_8 (kL_X4_readPart_L3_8 a0 x1 n) a0 x1 p8_2 p8_3 w8
def f_X4_readPart_L3 (u : fx_U) (a0 : Nat) (x1 : Int) : Int × fx_U :=
  fx_lr (u a0 0) fun at1 => fx_lc (f_X4_readPiece_L3 u a0 x1) fun v2 u2 => kL_X4_readPart_L3_8 a0 x1 (Int.toNat (240 - 0) + 1) v2 0 u2
def kB_X4_readParts_L3_8 (rec8 : (Int → Int → fx_U → Int × fx_U)) (a0 : Nat) (x1 : Int) (p8_2 : Int) (p8_3 : Int) (w8 : fx_U) : Int × fx_U :=
  (if p8_3 < 240 then (if p8_2 = 0 then (p8_2, w8) else fx_lt (f_X4_peek w8 a0) fun v20 => (if v20 = 124 then fx_lt (w8 a0 2) fun v30 => fx_lt (fx_b_add v30 1) fun v34 => fx_ls (fx_pt w8 a0 2 v34) fun u35 => fx_lr (u35 a0 4) fun b39 => fx_lc (f_X3_add u35 b39 124 0) fun v45 u45 => fx_lc (f_X4_readPart_L3 u45 a0 x1) fun v52 u52 => fx_ls (f_X3_leadHere u52 b39 v45) fun u62 => fx_lt (p8_3 + 1) fun v65 => rec8 v52 v65 u62 else (p8_2, w8))) else (p8_2, w8))
def kL_X4_readParts_L3_8 (a0 : Nat) (x1 : Int) : Nat → Int → Int → fx_U → Int × fx_U
  | 0, _, _, _ => (0, fun _ _ => 0)
  | n + 1, p8_2, p8_3, w8 => kB_X4_readParts_L3_8 (kL_X4_readParts_L3_8 a0 x1 n) a0 x1 p8_2 p8_3 w8
def f_X4_readParts_L3 (u : fx_U) (a0 : Nat) (x1 : Int) : Int × fx_U :=
  fx_lr (u a0 0) fun at1 => fx_lc (f_X4_readPart_L3 u a0 x1) fun v2 u2 => kL_X4_readParts_L3_8 a0 x1 (Int.toNat (240 - 0) + 1) v2 0 u2
def kJ_X4_readPiece_L2_123 (u86 : fx_U) (a0 : Nat) (x1 : Int) (v95 : Int) : Int × fx_U :=
  fx_lt (u86 a0 2) fun v125 => fx_lt (fx_b_add v125 1) fun v129 => fx_ls (fx_pt u86 a0 2 v129) fun u130 => fx_lc (f_X4_readSum_L2 u130 a0 x1) fun v135 u135 => (if v135 = 0 then (0, u135) else fx_lr (u135 a0 4) fun b144 => fx_lc (f_X3_add u135 b144 v95 0) fun v149 u149 => (1, u149))
def f_X4_readPiece_L2 (u : fx_U) (a0 : Nat) (x1 : Int) : Int × fx_U :=
  fx_lr (u a0 0) fun at1 => fx_lt (f_X4_peek u a0) fun v1 => (if v1 = 33 then fx_lc (f_X4_mayOpen u a0 x1) fun v11 u11 => (if v11 = 0 then (0, u11) else fx_lt (x1 + 1) fun v20 => fx_lc (f_X4_readPiece_L3 u11 a0 v20) fun v21 u21 => (if v21 = 0 then (0, u21) else fx_lr (u21 a0 4) fun b30 => fx_lc (f_X3_add u21 b30 33 0) fun v36 u36 => (1, u36))) else fx_lt (f_X4_peek u a0) fun v43 => (if v43 = 40 then fx_lc (f_X4_mayOpen u a0 x1) fun v53 u53 => (if v53 = 0 then (0, u53) else fx_lt (x1 + 1) fun v62 => fx_lc (f_X4_readParts_L3 u53 a0 v62) fun v63 u63 => (if v63 = 0 then (0, u63) else fx_lc (f_X4_expect u63 a0 41) fun v72 u72 => (if v72 = 0 then (0, u72) else (1, u72)))) else fx_lc (f_X4_readSum_L2 u a0 x1) fun v86 u86 => (if v86 = 0 then (0, u86) else fx_lt (f_X4_peek u86 a0) fun v95 => (if v95 = 60 then kJ_X4_readPiece_L2_123 u86 a0 x1 v95 else (if v95 = 62 then kJ_X4_readPiece_L2_123 u86 a0 x1 v95 else (if v95 = 61 then kJ_X4_readPiece_L2_123 u86 a0 x1 v95 else fx_lc (f_X4_fail u86 a0 1) fun v119 u119 => (v119, u119)))))))
def kB_X4_readPart_L2_8 (rec8 : (Int → Int → fx_U → Int × fx_U)) (a0 : Nat) (x1 : Int) (p8_2 : Int) (p8_3 : Int) (w8 : fx_U) : Int × fx_U :=
  (if p8_3 < 240 then (if p8_2 = 0 then (p8_2, w8) else fx_lt (f_X4_peek w8 a0) fun v20 => (if v20 = 38 then fx_lt (w8 a0 2) fun v30 => fx_lt (fx_b_add v30 1) fun v34 => fx_ls (fx_pt w8 a0 2 v34) fun u35 => fx_lr (u35 a0 4) fun b39 => fx_lc (f_X3_add u35 b39 38 0) fun v45 u45 => fx_lc (f_X4_readPiece_L2 u45 a0 x1) fun v52 u52 => fx_ls (f_X3_leadHere u52 b39 v45) fun u62 => fx_lt (p8_3 + 1) fun v65 => rec8 v52 v65 u62 else (p8_2, w8))) else (p8_2, w8))
def kL_X4_readPart_L2_8 (a0 : Nat) (x1 : Int) : Nat → Int → Int → fx_U → Int × fx_U
  | 0, _, _, _ => (0, fun _ _ => 0)
  | n + 1, p8_2, p8_3, w8 => kB_X4_readPart_L2_8 (kL_X4_readPart_L2_8 a0 x1 n) a0 x1 p8_2 p8_3 w8
def f_X4_readPart_L2 (u : fx_U) (a0 : Nat) (x1 : Int) : Int × fx_U :=
  fx_lr (u a0 0) fun at1 => fx_lc (f_X4_readPiece_L2 u a0 x1) fun v2 u2 => kL_X4_readPart_L2_8 a0 x1 (Int.toNat (240 - 0) + 1) v2 0 u2
def kB_X4_readParts_L2_8 (rec8 : (Int → Int → fx_U → Int × fx_U)) (a0 : Nat) (x1 : Int) (p8_2 : Int) (p8_3 : Int) (w8 : fx_U) : Int × fx_U :=
  (if p8_3 < 240 then (if p8_2 = 0 then (p8_2, w8) else fx_lt (f_X4_peek w8 a0) fun v20 => (if v20 = 124 then fx_lt (w8 a0 2) fun v30 => fx_lt (fx_b_add v30 1) fun v34 => fx_ls (fx_pt w8 a0 2 v34) fun u35 => fx_lr (u35 a0 4) fun b39 => fx_lc (f_X3_add u35 b39 124 0) fun v45 u45 => fx_lc (f_X4_readPart_L2 u45 a0 x1) fun v52 u52 => fx_ls (f_X3_leadHere u52 b39 v45) fun u62 => fx_lt (p8_3 + 1) fun v65 => rec8 v52 v65 u62 else (p8_2, w8))) else (p8_2, w8))
def kL_X4_readParts_L2_8 (a0 : Nat) (x1 : Int) : Nat → Int → Int → fx_U → Int × fx_U
  | 0, _, _, _ => (0, fun _ _ => 0)
  | n + 1, p8_2, p8_3, w8 => kB_X4_readParts_L2_8 (kL_X4_readParts_L2_8 a0 x1 n) a0 x1 p8_2 p8_3 w8
def f_X4_readParts_L2 (u : fx_U) (a0 : Nat) (x1 : Int) : Int × fx_U :=
  fx_lr (u a0 0) fun at1 => fx_lc (f_X4_readPart_L2 u a0 x1) fun v2 u2 => kL_X4_readParts_L2_8 a0 x1 (Int.toNat (240 - 0) + 1) v2 0 u2
def kJ_X4_readPiece_L1_123 (u86 : fx_U) (a0 : Nat) (x1 : Int) (v95 : Int) : Int × fx_U :=
  fx_lt (u86 a0 2) fun v125 => fx_lt (fx_b_add v125 1) fun v129 => fx_ls (fx_pt u86 a0 2 v129) fun u130 => fx_lc (f_X4_readSum_L1 u130 a0 x1) fun v135 u135 => (if v135 = 0 then (0, u135) else fx_lr (u135 a0 4) fun b144 => fx_lc (f_X3_add u135 b144 v95 0) fun v149 u149 => (1, u149))
def f_X4_readPiece_L1 (u : fx_U) (a0 : Nat) (x1 : Int) : Int × fx_U :=
  fx_lr (u a0 0) fun at1 => fx_lt (f_X4_peek u a0) fun v1 => (if v1 = 33 then fx_lc (f_X4_mayOpen u a0 x1) fun v11 u11 => (if v11 = 0 then (0, u11) else fx_lt (x1 + 1) fun v20 => fx_lc (f_X4_readPiece_L2 u11 a0 v20) fun v21 u21 => (if v21 = 0 then (0, u21) else fx_lr (u21 a0 4) fun b30 => fx_lc (f_X3_add u21 b30 33 0) fun v36 u36 => (1, u36))) else fx_lt (f_X4_peek u a0) fun v43 => (if v43 = 40 then fx_lc (f_X4_mayOpen u a0 x1) fun v53 u53 => (if v53 = 0 then (0, u53) else fx_lt (x1 + 1) fun v62 => fx_lc (f_X4_readParts_L2 u53 a0 v62) fun v63 u63 => (if v63 = 0 then (0, u63) else fx_lc (f_X4_expect u63 a0 41) fun v72 u72 => (if v72 = 0 then (0, u72) else (1, u72)))) else fx_lc (f_X4_readSum_L1 u a0 x1) fun v86 u86 => (if v86 = 0 then (0, u86) else fx_lt (f_X4_peek u86 a0) fun v95 => (if v95 = 60 then kJ_X4_readPiece_L1_123 u86 a0 x1 v95 else (if v95 = 62 then kJ_X4_readPiece_L1_123 u86 a0 x1 v95 else (if v95 = 61 then kJ_X4_readPiece_L1_123 u86 a0 x1 v95 else fx_lc (f_X4_fail u86 a0 1) fun v119 u119 => (v119, u119)))))))
def kB_X4_readPart_L1_8 (rec8 : (Int → Int → fx_U → Int × fx_U)) (a0 : Nat) (x1 : Int) (p8_2 : Int) (p8_3 : Int) (w8 : fx_U) : Int × fx_U :=
  (if p8_3 < 240 then (if p8_2 = 0 then (p8_2, w8) else fx_lt (f_X4_peek w8 a0) fun v20 => (if v20 = 38 then fx_lt (w8 a0 2) fun v30 => fx_lt (fx_b_add v30 1) fun v34 => fx_ls (fx_pt w8 a0 2 v34) fun u35 => fx_lr (u35 a0 4) fun b39 => fx_lc (f_X3_add u35 b39 38 0) fun v45 u45 => fx_lc (f_X4_readPiece_L1 u45 a0 x1) fun v52 u52 => fx_ls (f_X3_leadHere u52 b39 v45) fun u62 => fx_lt (p8_3 + 1) fun v65 => rec8 v52 v65 u62 else (p8_2, w8))) else (p8_2, w8))
def kL_X4_readPart_L1_8 (a0 : Nat) (x1 : Int) : Nat → Int → Int → fx_U → Int × fx_U
  | 0, _, _, _ => (0, fun _ _ => 0)
  | n + 1, p8_2, p8_3, w8 => kB_X4_readPart_L1_8 (kL_X4_readPart_L1_8 a0 x1 n) a0 x1 p8_2 p8_3 w8
def f_X4_readPart_L1 (u : fx_U) (a0 : Nat) (x1 : Int) : Int × fx_U :=
  fx_lr (u a0 0) fun at1 => fx_lc (f_X4_readPiece_L1 u a0 x1) fun v2 u2 => kL_X4_readPart_L1_8 a0 x1 (Int.toNat (240 - 0) + 1) v2 0 u2
def kB_X4_readParts_L1_8 (rec8 : (Int → Int → fx_U → Int × fx_U)) (a0 : Nat) (x1 : Int) (p8_2 : Int) (p8_3 : Int) (w8 : fx_U) : Int × fx_U :=
  (if p8_3 < 240 then (if p8_2 = 0 then (p8_2, w8) else fx_lt (f_X4_peek w8 a0) fun v20 => (if v20 = 124 then fx_lt (w8 a0 2) fun v30 => fx_lt (fx_b_add v30 1) fun v34 => fx_ls (fx_pt w8 a0 2 v34) fun u35 => fx_lr (u35 a0 4) fun b39 => fx_lc (f_X3_add u35 b39 124 0) fun v45 u45 => fx_lc (f_X4_readPart_L1 u45 a0 x1) fun v52 u52 => fx_ls (f_X3_leadHere u52 b39 v45) fun u62 => fx_lt (p8_3 + 1) fun v65 => rec8 v52 v65 u62 else (p8_2, w8))) else (p8_2, w8))
def kL_X4_readParts_L1_8 (a0 : Nat) (x1 : Int) : Nat → Int → Int → fx_U → Int × fx_U
  | 0, _, _, _ => (0, fun _ _ => 0)
  | n + 1, p8_2, p8_3, w8 => kB_X4_readParts_L1_8 (kL_X4_readParts_L1_8 a0 x1 n) a0 x1 p8_2 p8_3 w8
def f_X4_readParts_L1 (u : fx_U) (a0 : Nat) (x1 : Int) : Int × fx_U :=
  fx_lr (u a0 0) fun at1 => fx_lc (f_X4_readPart_L1 u a0 x1) fun v2 u2 => kL_X4_readParts_L1_8 a0 x1 (Int.toNat (240 - 0) + 1) v2 0 u2
def kJ_X4_readClause_41 (x1 : Int) (u : fx_U) (a0 : Nat) (v1 : Int) : Int × fx_U :=
  (if x1 < 16 then fx_lt (u a0 2) fun v55 => fx_lt (fx_b_add v55 1) fun v59 => fx_ls (fx_pt u a0 2 v59) fun u60 => fx_lr (u60 a0 4) fun b64 => fx_ls (f_X3_beginClause u60 b64 v1) fun u68 => fx_lc (f_X4_readSum_L0 u68 a0 0) fun v73 u73 => (if v73 = 0 then (0, u73) else fx_lc (f_X4_expect u73 a0 40) fun v82 u82 => (if v82 = 0 then (0, u82) else fx_lc (f_X3_add u82 b64 59 0) fun v97 u97 => fx_ls (f_X3_beginCondition u97 b64) fun u105 => fx_lc (f_X4_readParts_L1 u105 a0 1) fun v110 u110 => (if v110 = 0 then (0, u110) else fx_lc (f_X4_expect u110 a0 41) fun v119 u119 => (if v119 = 0 then (0, u119) else fx_lc (f_X3_add u119 b64 59 0) fun v134 u134 => (1, u134))))) else fx_lc (f_X4_fail u a0 4) fun v49 u49 => (v49, u49))
def f_X4_readClause (u : fx_U) (a0 : Nat) (x1 : Int) : Int × fx_U :=
  fx_lr (u a0 0) fun at1 => fx_lt (f_X4_peek u a0) fun v1 => (if v1 = 112 then kJ_X4_readClause_41 x1 u a0 v1 else (if v1 = 100 then kJ_X4_readClause_41 x1 u a0 v1 else (if v1 = 115 then kJ_X4_readClause_41 x1 u a0 v1 else (if v1 = 111 then kJ_X4_readClause_41 x1 u a0 v1 else (if v1 = 108 then kJ_X4_readClause_41 x1 u a0 v1 else fx_lc (f_X4_fail u a0 1) fun v37 u37 => (v37, u37))))))
def kB_X4_read_34 (rec34 : (Int → fx_U → Int × fx_U)) (a0 : Nat) (p34_3 : Int) (w34 : fx_U) : Int × fx_U :=
  (if 16 < p34_3 then fx_lt (w34 a0 3) fun v78 => (v78, w34) else fx_lc (f_X4_readClause w34 a0 p34_3) fun v42 u42 => (if v42 = 0 then fx_lt (u42 a0 3) fun v78 => (v78, u42) else fx_lt (u42 a0 2) fun v49 => fx_lt (u42 a0 1) fun v53 => (if v49 < v53 then fx_lc (f_X4_expect u42 a0 59) fun v62 u62 => (if v62 = 0 then fx_lt (u62 a0 3) fun v78 => (v78, u62) else fx_lt (p34_3 + 1) fun v71 => rec34 v71 u62) else fx_lt (u42 a0 3) fun v78 => (v78, u42))))
def kL_X4_read_34 (a0 : Nat) : Nat → Int → fx_U → Int × fx_U
  | 0, _, _ => (0, fun _ _ => 0)
  | n + 1, p34_3, w34 => kB_X4_read_34 (kL_X4_read_34 a0 n) a0 p34_3 w34
def f_X4_read (u : fx_U) (a0 : Nat) (a1 : Nat) (x2 : Int) : Int × fx_U :=
  fx_ls (fx_pt u a0 0 (a1 : Nat)) fun u2 => fx_lt (f_J9_min_7cf53 u2 x2 260) fun v9 => fx_ls (fx_pt u2 a0 1 v9) fun u12 => fx_ls (fx_pt u12 a0 2 0) fun u17 => fx_ls (fx_pt u17 a0 3 0) fun u22 => fx_lr (u22 a0 4) fun b26 => fx_ls (f_X3_clear u22 b26) fun u29 => kL_X4_read_34 a0 (Int.toNat (17 - 0) + 1) 0 u29
def kB_X11_putOnTape_3 (rec3 : (Int → fx_U → Int → fx_U)) (a0 : Nat) (x1 : Int) (p3_2 : Int) (w3 : fx_U) (F3 : Int) : fx_U :=
  (if p3_2 < 0 then w3 else (if F3 < 260 then fx_lr (w3 a0 0) fun b18 => fx_lt (fx_b_ushr x1 p3_2) fun v27 => fx_lt (fx_b_and v27 255) fun v31 => fx_ls (fx_pt w3 b18 F3.toNat v31) fun u32 => fx_lt (F3 + 1) fun v39 => fx_ls (fx_pt u32 a0 1 v39) fun u40 => fx_lt (p3_2 + (-8)) fun v43 => rec3 v43 u40 v39 else w3))
def kL_X11_putOnTape_3 (a0 : Nat) (x1 : Int) : Nat → Int → fx_U → Int → fx_U
  | 0, _, _, _ => (fun _ _ => 0)
  | n + 1, p3_2, w3, F3 => kB_X11_putOnTape_3 (kL_X11_putOnTape_3 a0 x1 n) a0 x1 p3_2 w3 F3
def f_X11_putOnTape (u : fx_U) (a0 : Nat) (x1 : Int) : fx_U :=
  fx_lt (u a0 1) fun q_1v => kL_X11_putOnTape_3 a0 x1 (Int.toNat (24 - (-8)) + 1) 24 u q_1v
def f_X11_feed (u : fx_U) (a0 : Nat) (x1 : Int) (x2 : Int) (x3 : Int) (x4 : Int) (x5 : Int) : Int × fx_U :=
  fx_lt (u a0 1) fun q_1v => (if 240 < q_1v then ((-1), u) else fx_ls (f_X11_putOnTape u a0 x1) fun u14 => fx_lt (u14 a0 1) fun t14 => fx_ls (f_X11_putOnTape u14 a0 x2) fun u19 => fx_lt (u19 a0 1) fun t19 => fx_ls (f_X11_putOnTape u19 a0 x3) fun u24 => fx_lt (u24 a0 1) fun t24 => fx_ls (f_X11_putOnTape u24 a0 x4) fun u30 => fx_lt (u30 a0 1) fun t30 => fx_ls (f_X11_putOnTape u30 a0 x5) fun u36 => fx_lt (u36 a0 1) fun t36 => (t36, u36))
def f_X11_law (u : fx_U) (a0 : Nat) (x1 : Int) : Int × fx_U :=
  fx_lt (u a0 1) fun q_1v => fx_lt (f_X11_isIn u x1 1 240) fun v5 => (if v5 = 0 then ((-1), u) else (if q_1v < x1 then ((-1), u) else fx_lr (u a0 3) fun b22 => fx_lr (u a0 0) fun b26 => fx_lc (f_X4_read u b22 b26 x1) fun v30 u30 => fx_ls (fx_pt u30 a0 1 0) fun u36 => (if v30 = 0 then fx_lr (u36 a0 4) fun b46 => fx_lr (u36 b22 4) fun b55 => fx_ls (fx_pt u36 a0 4 (b55 : Nat)) fun u58 => fx_ls (fx_pt u58 b22 4 (b46 : Nat)) fun u66 => fx_lt (u66 b55 0) fun v73 => (v73, u66) else (v30, u36))))
def f_X12_in (u : fx_U) (x0 : Int) (x1 : Int) (x2 : Int) : Int :=
  (if x0 < x1 then 0 else (if x2 < x0 then 0 else 1))
def f_X12_wrongAt (u : fx_U) (a0 : Nat) (x1 : Int) (x2 : Int) : Int × fx_U :=
  fx_lt (fx_b_mul (-1000) x1) fun v5 => fx_lt (fx_b_sub v5 x2) fun v7 => fx_ls (fx_pt u a0 7 v7) fun u8 => (0, u8)
def f_X12_factOf (u : fx_U) (x0 : Int) : Int :=
  (if x0 = 97 then 7 else (if x0 = 98 then (-1) else (if x0 = 99 then 6 else (if x0 = 100 then (-1) else (if x0 = 101 then (-1) else (if x0 = 102 then (-1) else (if x0 = 103 then (-1) else (if x0 = 104 then 3 else (if x0 = 105 then 0 else (if x0 = 106 then (-1) else (if x0 = 107 then 2 else (if x0 = 108 then (-1) else (if x0 = 109 then (-1) else (if x0 = 110 then 1 else (if x0 = 111 then (-1) else (if x0 = 112 then (-1) else (if x0 = 113 then (-1) else (if x0 = 114 then 8 else (if x0 = 115 then (-1) else (if x0 = 116 then 5 else (if x0 = 117 then (-1) else (if x0 = 118 then (-1) else (if x0 = 119 then 4 else (-1))))))))))))))))))))))))
def f_X12_sumSign (u : fx_U) (x0 : Int) : Int :=
  (if x0 = 43 then 2 else (if x0 = 45 then 3 else (if x0 = 42 then 4 else (if x0 = 47 then 5 else (if x0 = 37 then 6 else (-1))))))
def f_X12_isClause (u : fx_U) (x0 : Int) : Int :=
  (if x0 = 112 then 1 else (if x0 = 100 then 1 else (if x0 = 115 then 1 else (if x0 = 111 then 1 else (if x0 = 108 then 1 else 0)))))
def kB_X12_types_2 (rec2 : (Int → fx_U → Int → fx_U)) (a0 : Nat) (x1 : Int) (p2_2 : Int) (w2 : fx_U) (F2 : Int) : fx_U :=
  (if p2_2 < 0 then w2 else fx_lr (w2 a0 3) fun b7 => fx_lt (8 * p2_2) fun v18 => fx_lt (fx_b_shr x1 v18) fun v19 => fx_lt (fx_b_i2b v19) fun v20 => fx_ls (fx_pt w2 b7 F2.toNat (fx_b_i2b v20)) fun u21 => fx_lt (F2 + 1) fun v28 => fx_ls (fx_pt u21 a0 4 v28) fun u29 => fx_lt (p2_2 + (-1)) fun v32 => rec2 v32 u29 v28)
def kL_X12_types_2 (a0 : Nat) (x1 : Int) : Nat → Int → fx_U → Int → fx_U
  | 0, _, _, _ => (fun _ _ => 0)
  | n + 1, p2_2, w2, F2 => kB_X12_types_2 (kL_X12_types_2 a0 x1 n) a0 x1 p2_2 w2 F2
def f_X12_types (u : fx_U) (a0 : Nat) (x1 : Int) : fx_U :=
  fx_lt (u a0 4) fun t => kL_X12_types_2 a0 x1 (Int.toNat (3 - (-1)) + 1) 3 u t
def f_X12_feed (u : fx_U) (a0 : Nat) (x1 : Int) (x2 : Int) (x3 : Int) (x4 : Int) (x5 : Int) : Int × fx_U :=
  fx_lt (u a0 4) fun q_1v => fx_lt (q_1v + 20) fun v6 => (if 260 < v6 then ((-1), u) else fx_ls (f_X12_types u a0 x1) fun u17 => fx_lt (u17 a0 4) fun t17 => fx_ls (f_X12_types u17 a0 x2) fun u22 => fx_lt (u22 a0 4) fun t22 => fx_ls (f_X12_types u22 a0 x3) fun u27 => fx_lt (u27 a0 4) fun t27 => fx_ls (f_X12_types u27 a0 x4) fun u33 => fx_lt (u33 a0 4) fun t33 => fx_ls (f_X12_types u33 a0 x5) fun u39 => fx_lt (u39 a0 4) fun t39 => (t39, u39))
def f_X12_here (u : fx_U) (a0 : Nat) : Int :=
  fx_lt (u a0 5) fun q_1v => fx_lt (u a0 6) fun q_2v => fx_lr (u a0 3) fun q_3b => (if q_1v < q_2v then fx_lt (u q_3b q_1v.toNat) fun v19 => fx_lt (fx_b_and v19 255) fun v23 => v23 else (-1))
def f_X12_isDigit (u : fx_U) (a0 : Nat) : Int :=
  fx_lt (u a0 5) fun q_1v => fx_lt (f_X12_here u a0) fun v1 => (if v1 < 48 then 0 else fx_lt (f_X12_here u a0) fun v10 => (if 57 < v10 then 0 else 1))
def f_X12_takes (u : fx_U) (a0 : Nat) (x1 : Int) : Int × fx_U :=
  fx_lt (u a0 5) fun q_1v => fx_lt (f_X12_here u a0) fun v1 => (if v1 = x1 then fx_lt (q_1v + 1) fun v24 => fx_ls (fx_pt u a0 5 v24) fun u25 => (1, u25) else fx_lc (f_X12_wrongAt u a0 1 q_1v) fun v14 u14 => (v14, u14))
def f_X12_notes (u : fx_U) (a0 : Nat) (x1 : Int) (x2 : Int) : fx_U :=
  fx_lr (u a0 15) fun bs => fx_lt (u a0 10) fun cq => fx_lt (1048576 * x1) fun v11 => fx_lt (v11 + x2) fun v13 => fx_ls (fx_pt u bs cq.toNat v13) fun u14 => fx_lt (cq + 1) fun v21 => fx_ls (fx_pt u14 a0 10 v21) fun u22 => u22
def f_X12_opens (u : fx_U) (a0 : Nat) (x1 : Int) : Int × fx_U :=
  fx_lr (u a0 16) fun bw => fx_lt (u a0 11) fun wq => fx_lt (u a0 5) fun pq => fx_lt (u a0 9) fun v1 => (if v1 = 6 then fx_lc (f_X12_wrongAt u a0 5 pq) fun v15 u15 => (v15, u15) else fx_lt (fx_b_add v1 1) fun v25 => fx_ls (fx_pt u a0 9 v25) fun u26 => fx_lt (1048576 * x1) fun v40 => fx_ls (fx_pt u26 bw wq.toNat v40) fun u41 => fx_lt (wq + 1) fun v48 => fx_ls (fx_pt u41 a0 11 v48) fun u49 => fx_lt (pq + 1) fun v58 => fx_ls (fx_pt u49 a0 5 v58) fun u59 => (1, u59))
def f_X12_waitTop (u : fx_U) (a0 : Nat) : Int :=
  fx_lr (u a0 16) fun bw => fx_lt (u a0 11) fun wq => (if wq = 0 then (-1) else fx_lt (wq - 1) fun v20 => fx_lt (u bw v20.toNat) fun v21 => fx_lt (v21 / 1048576) fun v24 => v24)
def kB_X12_hasOpenSum_2 (rec2 : (Int → Int)) (wq : Int) (u : fx_U) (bw : Nat) (p2_2 : Int) : Int :=
  (if p2_2 < wq then fx_lt (u bw p2_2.toNat) fun v15 => fx_lt (v15 / 1048576) fun v18 => (if v18 = 14 then 1 else fx_lt (p2_2 + 1) fun v26 => rec2 v26) else 0)
def kL_X12_hasOpenSum_2 (wq : Int) (u : fx_U) (bw : Nat) : Nat → Int → Int
  | 0, _ => 0
  | n + 1, p2_2 => kB_X12_hasOpenSum_2 (kL_X12_hasOpenSum_2 wq u bw n) wq u bw p2_2
def f_X12_hasOpenSum (u : fx_U) (a0 : Nat) (x1 : Int) : Int :=
  fx_lr (u a0 16) fun bw => fx_lt (u a0 11) fun wq => kL_X12_hasOpenSum_2 wq u bw (Int.toNat (260 - x1) + 1) x1
def kJ_X12_closesSums_37 (w0 : fx_U) (a0 : Nat) (wq0 : Int) (rec0 : (fx_U → Int → Int → Int → fx_U)) (pq : Int) : fx_U :=
  fx_lt (f_X12_waitTop w0 a0) fun v39 => fx_ls (f_X12_notes w0 a0 v39 0) fun u43 => fx_lt (u43 a0 10) fun c1_43 => fx_lt (wq0 - 1) fun v52 => fx_ls (fx_pt u43 a0 11 v52) fun u53 => rec0 u53 c1_43 v52 pq
def kJ_X12_closesSums_17 (x1 : Int) (w0 : fx_U) (a0 : Nat) (wq0 : Int) (rec0 : (fx_U → Int → Int → Int → fx_U)) (pq : Int) : fx_U :=
  (if x1 = 0 then w0 else fx_lt (f_X12_waitTop w0 a0) fun v22 => (if v22 = 2 then kJ_X12_closesSums_37 w0 a0 wq0 rec0 pq else fx_lt (f_X12_waitTop w0 a0) fun v30 => (if v30 = 3 then kJ_X12_closesSums_37 w0 a0 wq0 rec0 pq else w0)))
def kB_X12_closesSums_0 (rec0 : (fx_U → Int → Int → Int → fx_U)) (a0 : Nat) (x1 : Int) (pq : Int) (w0 : fx_U) (cq0 : Int) (wq0 : Int) (pq0 : Int) : fx_U :=
  fx_lt (f_X12_waitTop w0 a0) fun v1 => (if v1 < 4 then kJ_X12_closesSums_17 x1 w0 a0 wq0 rec0 pq else fx_lt (f_X12_waitTop w0 a0) fun v9 => (if 6 < v9 then kJ_X12_closesSums_17 x1 w0 a0 wq0 rec0 pq else kJ_X12_closesSums_37 w0 a0 wq0 rec0 pq))
def kL_X12_closesSums_0 (a0 : Nat) (x1 : Int) (pq : Int) : Nat → fx_U → Int → Int → Int → fx_U
  | 0, _, _, _, _ => (fun _ _ => 0)
  | n + 1, w0, cq0, wq0, pq0 => kB_X12_closesSums_0 (kL_X12_closesSums_0 a0 x1 pq n) a0 x1 pq w0 cq0 wq0 pq0
def f_X12_closesSums (u : fx_U) (a0 : Nat) (x1 : Int) : fx_U :=
  fx_lr (u a0 15) fun bs => fx_lr (u a0 16) fun bw => fx_lt (u a0 5) fun pq => fx_lt (u a0 10) fun cq => fx_lt (u a0 11) fun wq => kL_X12_closesSums_0 a0 x1 pq (Int.toNat wq + 1) u cq wq pq
def kB_X12_readsNumber_10 (rec10 : (fx_U → Int → Int → Int × fx_U)) (a0 : Nat) (q_1v : Int) (w10 : fx_U) (F10 : Int) (G10 : Int) : Int × fx_U :=
  fx_lt (f_X12_isDigit w10 a0) fun v11 => (if v11 = 0 then (1, w10) else fx_lt (q_1v + 5) fun v23 => (if F10 = v23 then fx_lc (f_X12_wrongAt w10 a0 2 F10) fun v33 u33 => (v33, u33) else fx_lt (10 * G10) fun v44 => fx_lt (f_X12_here w10 a0) fun v46 => fx_lt (v44 + v46) fun v49 => fx_lt (v49 - 48) fun v52 => fx_ls (fx_pt w10 a0 8 v52) fun u53 => fx_lt (F10 + 1) fun v62 => fx_ls (fx_pt u53 a0 5 v62) fun u63 => rec10 u63 v62 v52))
def kL_X12_readsNumber_10 (a0 : Nat) (q_1v : Int) : Nat → fx_U → Int → Int → Int × fx_U
  | 0, _, _, _ => (0, fun _ _ => 0)
  | n + 1, w10, F10, G10 => kB_X12_readsNumber_10 (kL_X12_readsNumber_10 a0 q_1v n) a0 q_1v w10 F10 G10
def f_X12_readsNumber (u : fx_U) (a0 : Nat) : Int × fx_U :=
  fx_lt (u a0 5) fun q_1v => fx_lr (u a0 3) fun q_2b => fx_ls (fx_pt u a0 8 0) fun u7 => kL_X12_readsNumber_10 a0 q_1v (Int.toNat (260 - q_1v) + 1) u7 q_1v 0
def kB_X12_readsFactor_0 (rec0 : (fx_U → Int → Int → Int → Int × fx_U)) (a0 : Nat) (w0 : fx_U) (cq0 : Int) (wq0 : Int) (pq0 : Int) : Int × fx_U :=
  fx_lt (f_X12_here w0 a0) fun v1 => (if v1 = 91 then fx_lc (f_X12_opens w0 a0 14) fun v12 u12 => (if v12 = 0 then (0, u12) else fx_lt (u12 a0 11) fun w1_12 => fx_lt (u12 a0 5) fun p1_12 => rec0 u12 cq0 w1_12 p1_12) else fx_lt (f_X12_isDigit w0 a0) fun v21 => (if v21 = 0 then fx_lt (f_X12_here w0 a0) fun v48 => fx_lt (f_X12_factOf w0 v48) fun v51 => (if v51 = (-1) then fx_lc (f_X12_wrongAt w0 a0 1 pq0) fun v66 u66 => (v66, u66) else fx_ls (f_X12_notes w0 a0 1 v51) fun u73 => fx_lt (u73 a0 10) fun c1_73 => fx_lt (pq0 + 1) fun v82 => fx_ls (fx_pt u73 a0 5 v82) fun u83 => (1, u83)) else fx_lc (f_X12_readsNumber w0 a0) fun v28 u28 => (if v28 = 0 then (0, u28) else fx_lt (u28 a0 5) fun y28 => fx_lt (u28 a0 8) fun n28 => fx_ls (f_X12_notes u28 a0 0 n28) fun u42 => fx_lt (u42 a0 10) fun c1_42 => (1, u42))))
def kL_X12_readsFactor_0 (a0 : Nat) : Nat → fx_U → Int → Int → Int → Int × fx_U
  | 0, _, _, _, _ => (0, fun _ _ => 0)
  | n + 1, w0, cq0, wq0, pq0 => kB_X12_readsFactor_0 (kL_X12_readsFactor_0 a0 n) a0 w0 cq0 wq0 pq0
def f_X12_readsFactor (u : fx_U) (a0 : Nat) : Int × fx_U :=
  fx_lr (u a0 15) fun bs => fx_lr (u a0 16) fun bw => fx_lt (u a0 10) fun cq => fx_lt (u a0 11) fun wq => fx_lt (u a0 5) fun pq => kL_X12_readsFactor_0 a0 (Int.toNat (260 - pq) + 1) u cq wq pq
def kJ_X12_readsSum_163 (rec14 : (fx_U → Int → Int → Int → Int × fx_U)) (w163 : fx_U) (cq163 : Int) (wq163 : Int) (pq163 : Int) : Int × fx_U :=
  rec14 w163 cq163 wq163 pq163
def kJ_X12_readsSum_138 (w14 : fx_U) (a0 : Nat) (wq : Int) (pq14 : Int) : Int × fx_U :=
  fx_lt (f_X12_hasOpenSum w14 a0 wq) fun v140 => (if v140 = 0 then fx_ls (f_X12_closesSums w14 a0 1) fun u158 => fx_lt (u158 a0 10) fun c2_158 => fx_lt (u158 a0 11) fun w2_158 => (1, u158) else fx_lc (f_X12_wrongAt w14 a0 1 pq14) fun v152 u152 => (v152, u152))
def kJ_X12_readsSum_38 (w14 : fx_U) (a0 : Nat) (v18 : Int) (bw : Nat) (pq14 : Int) (rec14 : (fx_U → Int → Int → Int → Int × fx_U)) (p38_s0 : Int) : Int × fx_U :=
  fx_ls (f_X12_closesSums w14 a0 p38_s0) fun u38 => fx_lt (u38 a0 10) fun c2_38 => fx_lt (u38 a0 11) fun w2_38 => fx_lt (1048576 * v18) fun v52 => fx_ls (fx_pt u38 bw w2_38.toNat v52) fun u53 => fx_lt (w2_38 + 1) fun v60 => fx_ls (fx_pt u53 a0 11 v60) fun u61 => fx_lt (pq14 + 1) fun v70 => fx_ls (fx_pt u61 a0 5 v70) fun u71 => fx_lc (f_X12_readsFactor u71 a0) fun v75 u75 => (if v75 = 0 then (0, u75) else fx_lt (u75 a0 10) fun c3_75 => fx_lt (u75 a0 11) fun w3_75 => fx_lt (u75 a0 5) fun p3_75 => kJ_X12_readsSum_163 rec14 u75 c3_75 w3_75 p3_75)
def kB_X12_readsSum_14 (rec14 : (fx_U → Int → Int → Int → Int × fx_U)) (a0 : Nat) (wq : Int) (bw : Nat) (w14 : fx_U) (cq14 : Int) (wq14 : Int) (pq14 : Int) : Int × fx_U :=
  fx_lt (f_X12_here w14 a0) fun v15 => fx_lt (f_X12_sumSign w14 v15) fun v18 => (if v18 = (-1) then fx_lt (f_X12_here w14 a0) fun v84 => (if v84 = 93 then fx_lt (f_X12_hasOpenSum w14 a0 wq) fun v94 => (if v94 = 0 then kJ_X12_readsSum_138 w14 a0 wq pq14 else fx_ls (f_X12_closesSums w14 a0 1) fun u102 => fx_lt (u102 a0 10) fun c2_102 => fx_lt (u102 a0 11) fun w2_102 => fx_lt (w2_102 - 1) fun v111 => fx_ls (fx_pt u102 a0 11 v111) fun u112 => fx_lt (u112 a0 9) fun v117 => fx_lt (fx_b_sub v117 1) fun v121 => fx_ls (fx_pt u112 a0 9 v121) fun u122 => fx_lt (pq14 + 1) fun v131 => fx_ls (fx_pt u122 a0 5 v131) fun u132 => kJ_X12_readsSum_163 rec14 u132 c2_102 v111 v131) else kJ_X12_readsSum_138 w14 a0 wq pq14) else (if v18 < 4 then kJ_X12_readsSum_38 w14 a0 v18 bw pq14 rec14 1 else kJ_X12_readsSum_38 w14 a0 v18 bw pq14 rec14 0))
def kL_X12_readsSum_14 (a0 : Nat) (wq : Int) (bw : Nat) : Nat → fx_U → Int → Int → Int → Int × fx_U
  | 0, _, _, _, _ => (0, fun _ _ => 0)
  | n + 1, w14, cq14, wq14, pq14 => kB_X12_readsSum_14 (kL_X12_readsSum_14 a0 wq bw n) a0 wq bw w14 cq14 wq14 pq14
def f_X12_readsSum (u : fx_U) (a0 : Nat) : Int × fx_U :=
  fx_lr (u a0 15) fun bs => fx_lr (u a0 16) fun bw => fx_lt (u a0 10) fun cq => fx_lt (u a0 11) fun wq => fx_lt (u a0 5) fun pq => fx_lc (f_X12_readsFactor u a0) fun v6 u6 => (if v6 = 0 then (0, u6) else fx_lt (u6 a0 10) fun c3_6 => fx_lt (u6 a0 11) fun w3_6 => fx_lt (u6 a0 5) fun p3_6 => kL_X12_readsSum_14 a0 wq bw (Int.toNat (260 - p3_6) + 1) u6 c3_6 w3_6 p3_6)
def kB_X12_endsPiece_0 (rec0 : (fx_U → Int → Int → Int → fx_U)) (a0 : Nat) (pq : Int) (w0 : fx_U) (cq0 : Int) (wq0 : Int) (pq0 : Int) : fx_U :=
  fx_lt (f_X12_waitTop w0 a0) fun v1 => (if v1 = 10 then fx_ls (f_X12_notes w0 a0 10 0) fun u13 => fx_lt (u13 a0 10) fun c1_13 => fx_lt (wq0 - 1) fun v22 => fx_ls (fx_pt u13 a0 11 v22) fun u23 => fx_lt (u23 a0 9) fun v28 => fx_lt (fx_b_sub v28 1) fun v32 => fx_ls (fx_pt u23 a0 9 v32) fun u33 => rec0 u33 c1_13 v22 pq else w0)
def kL_X12_endsPiece_0 (a0 : Nat) (pq : Int) : Nat → fx_U → Int → Int → Int → fx_U
  | 0, _, _, _, _ => (fun _ _ => 0)
  | n + 1, w0, cq0, wq0, pq0 => kB_X12_endsPiece_0 (kL_X12_endsPiece_0 a0 pq n) a0 pq w0 cq0 wq0 pq0
def f_X12_endsPiece (u : fx_U) (a0 : Nat) : fx_U :=
  fx_lr (u a0 15) fun bs => fx_lr (u a0 16) fun bw => fx_lt (u a0 5) fun pq => fx_lt (u a0 10) fun cq => fx_lt (u a0 11) fun wq => kL_X12_endsPiece_0 a0 pq (Int.toNat wq + 1) u cq wq pq
def kJ_X12_lands_22 (wq0 : Int) (w0 : fx_U) (bw : Nat) (bs : Nat) (cq : Int) (a0 : Nat) (rec0 : (fx_U → Int → Int → Int → fx_U)) (pq : Int) : fx_U :=
  fx_lt (wq0 - 1) fun v31 => fx_lt (w0 bw v31.toNat) fun v32 => fx_lt (v32 % 1048576) fun v35 => fx_lt (w0 bs v35.toNat) fun v49 => fx_lt (v49 / 1048576) fun v52 => fx_lt (1048576 * v52) fun v53 => fx_lt (v53 + cq) fun v58 => fx_ls (fx_pt w0 bs v35.toNat v58) fun u59 => fx_ls (fx_pt u59 a0 11 v31) fun u67 => rec0 u67 cq v31 pq
def kB_X12_lands_0 (rec0 : (fx_U → Int → Int → Int → fx_U)) (a0 : Nat) (bw : Nat) (bs : Nat) (cq : Int) (pq : Int) (x1 : Int) (w0 : fx_U) (cq0 : Int) (wq0 : Int) (pq0 : Int) : fx_U :=
  fx_lt (f_X12_waitTop w0 a0) fun v1 => (if v1 = 11 then kJ_X12_lands_22 wq0 w0 bw bs cq a0 rec0 pq else (if x1 = 0 then w0 else fx_lt (f_X12_waitTop w0 a0) fun v14 => (if v14 = 12 then kJ_X12_lands_22 wq0 w0 bw bs cq a0 rec0 pq else w0)))
def kL_X12_lands_0 (a0 : Nat) (bw : Nat) (bs : Nat) (cq : Int) (pq : Int) (x1 : Int) : Nat → fx_U → Int → Int → Int → fx_U
  | 0, _, _, _, _ => (fun _ _ => 0)
  | n + 1, w0, cq0, wq0, pq0 => kB_X12_lands_0 (kL_X12_lands_0 a0 bw bs cq pq x1 n) a0 bw bs cq pq x1 w0 cq0 wq0 pq0
def f_X12_lands (u : fx_U) (a0 : Nat) (x1 : Int) : fx_U :=
  fx_lr (u a0 15) fun bs => fx_lr (u a0 16) fun bw => fx_lt (u a0 10) fun cq => fx_lt (u a0 5) fun pq => fx_lt (u a0 11) fun wq => kL_X12_lands_0 a0 bw bs cq pq x1 (Int.toNat wq + 1) u cq wq pq
def f_X12_jumps (u : fx_U) (a0 : Nat) (x1 : Int) : fx_U :=
  fx_lr (u a0 15) fun bs => fx_lr (u a0 16) fun bw => fx_lt (u a0 10) fun cq => fx_lt (u a0 11) fun wq => fx_lt (u a0 5) fun pq => fx_lt (1048576 * x1) fun v11 => fx_lt (v11 + cq) fun v16 => fx_ls (fx_pt u bw wq.toNat v16) fun u17 => fx_lt (wq + 1) fun v24 => fx_ls (fx_pt u17 a0 11 v24) fun u25 => fx_ls (f_X12_notes u25 a0 x1 0) fun u31 => fx_lt (u31 a0 10) fun c1_31 => fx_lt (pq + 1) fun v40 => fx_ls (fx_pt u31 a0 5 v40) fun u41 => u41
def kJ_X12_readsCompared_52 (u1 : fx_U) (a0 : Nat) (p4_1 : Int) (p52_s0 : Int) : Int × fx_U :=
  (if p52_s0 = (-1) then fx_lc (f_X12_wrongAt u1 a0 1 p4_1) fun v64 u64 => (v64, u64) else fx_lt (p4_1 + 1) fun v74 => fx_ls (fx_pt u1 a0 5 v74) fun u75 => fx_lc (f_X12_readsSum u75 a0) fun v79 u79 => (if v79 = 0 then (0, u79) else fx_lt (u79 a0 10) fun c4_79 => fx_lt (u79 a0 5) fun p4_79 => fx_ls (f_X12_notes u79 a0 p52_s0 0) fun u90 => fx_lt (u90 a0 10) fun c1_90 => fx_ls (f_X12_endsPiece u90 a0) fun u94 => fx_lt (u94 a0 10) fun c2_94 => fx_lt (u94 a0 11) fun w2_94 => (1, u94)))
def f_X12_readsCompared (u : fx_U) (a0 : Nat) : Int × fx_U :=
  fx_lr (u a0 15) fun bs => fx_lr (u a0 16) fun bw => fx_lt (u a0 10) fun cq => fx_lt (u a0 11) fun wq => fx_lt (u a0 5) fun pq => fx_lc (f_X12_readsSum u a0) fun v1 u1 => (if v1 = 0 then (0, u1) else fx_lt (u1 a0 10) fun c4_1 => fx_lt (u1 a0 5) fun p4_1 => fx_lt (f_X12_here u1 a0) fun v10 => (if v10 = 60 then kJ_X12_readsCompared_52 u1 a0 p4_1 7 else fx_lt (f_X12_here u1 a0) fun v24 => (if v24 = 62 then kJ_X12_readsCompared_52 u1 a0 p4_1 8 else fx_lt (f_X12_here u1 a0) fun v38 => (if v38 = 61 then kJ_X12_readsCompared_52 u1 a0 p4_1 9 else kJ_X12_readsCompared_52 u1 a0 p4_1 (-1)))))
def kJ_X12_readsCondition_75 (w40 : fx_U) (a0 : Nat) (rec40 : (fx_U → Int → Int → Int → Int × fx_U)) (cq40 : Int) (p75_s0 : Int) : Int × fx_U :=
  fx_lc (f_X12_opens w40 a0 p75_s0) fun v75 u75 => (if v75 = 0 then (0, u75) else fx_lt (u75 a0 11) fun w1_75 => fx_lt (u75 a0 5) fun p1_75 => rec40 u75 cq40 w1_75 p1_75)
def kJ_X12_readsCondition_58 (w40 : fx_U) (a0 : Nat) (rec40 : (fx_U → Int → Int → Int → Int × fx_U)) (cq40 : Int) : Int × fx_U :=
  fx_lt (f_X12_here w40 a0) fun v60 => (if v60 = 33 then kJ_X12_readsCondition_75 w40 a0 rec40 cq40 10 else kJ_X12_readsCondition_75 w40 a0 rec40 cq40 13)
def kJ_X12_readsCondition_215 (u195 : fx_U) (a0 : Nat) (rec40 : (fx_U → Int → Int → Int → Int × fx_U)) (p215_s0 : Int) : Int × fx_U :=
  fx_ls (f_X12_jumps u195 a0 p215_s0) fun u215 => fx_lt (u215 a0 10) fun c3_215 => fx_lt (u215 a0 11) fun w3_215 => fx_lt (u215 a0 5) fun p3_215 => rec40 u215 c3_215 w3_215 p3_215
def kJ_X12_readsCondition_195 (w92 : fx_U) (a0 : Nat) (rec40 : (fx_U → Int → Int → Int → Int × fx_U)) (p195_s0 : Int) : Int × fx_U :=
  fx_ls (f_X12_lands w92 a0 p195_s0) fun u195 => fx_lt (u195 a0 11) fun w2_195 => fx_lt (f_X12_here u195 a0) fun v200 => (if v200 = 38 then kJ_X12_readsCondition_215 u195 a0 rec40 11 else kJ_X12_readsCondition_215 u195 a0 rec40 12)
def kJ_X12_readsCondition_180 (w92 : fx_U) (a0 : Nat) (rec40 : (fx_U → Int → Int → Int → Int × fx_U)) : Int × fx_U :=
  fx_lt (f_X12_here w92 a0) fun v182 => (if v182 = 124 then kJ_X12_readsCondition_195 w92 a0 rec40 1 else kJ_X12_readsCondition_195 w92 a0 rec40 0)
def kB_X12_readsCondition_92 (rec92 : (fx_U → Int → Int → Int → Int × fx_U)) (a0 : Nat) (rec40 : (fx_U → Int → Int → Int → Int × fx_U)) (w92 : fx_U) (cq92 : Int) (wq92 : Int) (pq92 : Int) : Int × fx_U :=
  fx_lt (f_X12_here w92 a0) fun v93 => (if v93 = 41 then fx_ls (f_X12_lands w92 a0 1) fun u103 => fx_lt (u103 a0 11) fun w2_103 => fx_lt (w2_103 - 1) fun v112 => fx_ls (fx_pt u103 a0 11 v112) fun u113 => fx_lt (u113 a0 9) fun v118 => fx_lt (fx_b_sub v118 1) fun v122 => fx_ls (fx_pt u113 a0 9 v122) fun u123 => fx_lt (pq92 + 1) fun v132 => fx_ls (fx_pt u123 a0 5 v132) fun u133 => (if v112 = 0 then (1, u133) else fx_ls (f_X12_endsPiece u133 a0) fun u146 => fx_lt (u146 a0 10) fun c2_146 => fx_lt (u146 a0 11) fun w2_146 => rec92 u146 c2_146 w2_146 v132) else fx_lt (f_X12_here w92 a0) fun v153 => (if v153 = 38 then kJ_X12_readsCondition_180 w92 a0 rec40 else fx_lt (f_X12_here w92 a0) fun v162 => (if v162 = 124 then kJ_X12_readsCondition_180 w92 a0 rec40 else fx_lc (f_X12_wrongAt w92 a0 1 pq92) fun v176 u176 => (v176, u176))))
def kL_X12_readsCondition_92 (a0 : Nat) (rec40 : (fx_U → Int → Int → Int → Int × fx_U)) : Nat → fx_U → Int → Int → Int → Int × fx_U
  | 0, _, _, _, _ => (0, fun _ _ => 0)
  | n + 1, w92, cq92, wq92, pq92 => kB_X12_readsCondition_92 (kL_X12_readsCondition_92 a0 rec40 n) a0 rec40 w92 cq92 wq92 pq92
def kB_X12_readsCondition_40 (rec40 : (fx_U → Int → Int → Int → Int × fx_U)) (a0 : Nat) (w40 : fx_U) (cq40 : Int) (wq40 : Int) (pq40 : Int) : Int × fx_U :=
  fx_lt (f_X12_here w40 a0) fun v41 => (if v41 = 33 then kJ_X12_readsCondition_58 w40 a0 rec40 cq40 else fx_lt (f_X12_here w40 a0) fun v50 => (if v50 = 40 then kJ_X12_readsCondition_58 w40 a0 rec40 cq40 else fx_lc (f_X12_readsCompared w40 a0) fun v84 u84 => (if v84 = 0 then (0, u84) else fx_lt (u84 a0 10) fun c3_84 => fx_lt (u84 a0 11) fun w3_84 => fx_lt (u84 a0 5) fun p3_84 => kL_X12_readsCondition_92 a0 rec40 (Int.toNat (260 - p3_84) + 1) u84 c3_84 w3_84 p3_84)))
def kL_X12_readsCondition_40 (a0 : Nat) : Nat → fx_U → Int → Int → Int → Int × fx_U
  | 0, _, _, _, _ => (0, fun _ _ => 0)
  | n + 1, w40, cq40, wq40, pq40 => kB_X12_readsCondition_40 (kL_X12_readsCondition_40 a0 n) a0 w40 cq40 wq40 pq40
def f_X12_readsCondition (u : fx_U) (a0 : Nat) : Int × fx_U :=
  fx_lr (u a0 15) fun bs => fx_lr (u a0 16) fun bw => fx_lt (u a0 10) fun cq => fx_lt (u a0 11) fun wq => fx_lt (u a0 5) fun pq => fx_lt (f_X12_here u a0) fun v1 => (if v1 = 40 then fx_ls (fx_pt u a0 9 0) fun u21 => fx_ls (fx_pt u21 a0 11 0) fun u26 => fx_lc (f_X12_opens u26 a0 13) fun v32 u32 => (if v32 = 0 then (0, u32) else fx_lt (u32 a0 11) fun w1_32 => fx_lt (u32 a0 5) fun p1_32 => kL_X12_readsCondition_40 a0 (Int.toNat (260 - p1_32) + 1) u32 cq w1_32 p1_32) else fx_lc (f_X12_wrongAt u a0 1 pq) fun v15 u15 => (v15, u15))
def f_X12_readsClause (u : fx_U) (a0 : Nat) : Int × fx_U :=
  fx_lr (u a0 15) fun bs => fx_lr (u a0 16) fun bw => fx_lr (u a0 18) fun bf => fx_lr (u a0 19) fun bh => fx_lr (u a0 20) fun bt => fx_lt (u a0 10) fun cq => fx_lt (u a0 11) fun wq => fx_lt (u a0 5) fun pq => fx_lt (u a0 12) fun mq => fx_lt (f_X12_here u a0) fun v1 => fx_lt (f_X12_isClause u v1) fun v6 => (if v6 = 0 then fx_lc (f_X12_wrongAt u a0 1 pq) fun v18 u18 => (v18, u18) else (if mq = 16 then fx_lc (f_X12_wrongAt u a0 4 pq) fun v37 u37 => (v37, u37) else fx_lr (u a0 17) fun b42 => fx_ls (fx_pt u b42 mq.toNat v1) fun u50 => fx_lt (pq + 1) fun v57 => fx_ls (fx_pt u50 a0 5 v57) fun u58 => fx_ls (fx_pt u58 bf mq.toNat cq) fun u73 => fx_ls (fx_pt u73 a0 9 0) fun u76 => fx_ls (fx_pt u76 a0 11 0) fun u81 => fx_lc (f_X12_readsSum u81 a0) fun v85 u85 => (if v85 = 0 then (0, u85) else fx_lt (u85 a0 10) fun c4_85 => fx_lt (u85 a0 5) fun p4_85 => fx_ls (fx_pt u85 bh mq.toNat c4_85) fun u105 => fx_lc (f_X12_readsCondition u105 a0) fun v107 u107 => (if v107 = 0 then (0, u107) else fx_lt (u107 a0 10) fun c5_107 => fx_lt (u107 a0 5) fun p5_107 => fx_ls (fx_pt u107 bt mq.toNat c5_107) fun u127 => fx_lt (mq + 1) fun v134 => fx_ls (fx_pt u127 a0 12 v134) fun u135 => (1, u135)))))
def kB_X12_law_138 (rec138 : (Int → fx_U → Int × fx_U)) (mL46 : Int) (a0 : Nat) (bf : Nat) (bcf : Nat) (bh : Nat) (bch : Nat) (bt : Nat) (bct : Nat) (p138_3 : Int) (w138 : fx_U) : Int × fx_U :=
  (if p138_3 < mL46 then fx_lr (w138 a0 22) fun b147 => fx_lr (w138 a0 17) fun b152 => fx_lt (w138 b152 p138_3.toNat) fun v156 => fx_ls (fx_pt w138 b147 p138_3.toNat v156) fun u157 => fx_lt (u157 bf p138_3.toNat) fun v168 => fx_ls (fx_pt u157 bcf p138_3.toNat v168) fun u169 => fx_lt (u169 bh p138_3.toNat) fun v180 => fx_ls (fx_pt u169 bch p138_3.toNat v180) fun u181 => fx_lt (u181 bt p138_3.toNat) fun v192 => fx_ls (fx_pt u181 bct p138_3.toNat v192) fun u193 => fx_lt (p138_3 + 1) fun v194 => rec138 v194 u193 else (mL46, w138))
def kL_X12_law_138 (mL46 : Int) (a0 : Nat) (bf : Nat) (bcf : Nat) (bh : Nat) (bch : Nat) (bt : Nat) (bct : Nat) : Nat → Int → fx_U → Int × fx_U
  | 0, _, _ => (0, fun _ _ => 0)
  | n + 1, p138_3, w138 => kB_X12_law_138 (kL_X12_law_138 mL46 a0 bf bcf bh bch bt bct n) mL46 a0 bf bcf bh bch bt bct p138_3 w138
def kB_X12_law_110 (rec110 : (Int → fx_U → Int × fx_U)) (cL46 : Int) (bs : Nat) (bc : Nat) (mL46 : Int) (a0 : Nat) (bf : Nat) (bcf : Nat) (bh : Nat) (bch : Nat) (bt : Nat) (bct : Nat) (p110_3 : Int) (w110 : fx_U) : Int × fx_U :=
  (if p110_3 < cL46 then fx_lt (w110 bs p110_3.toNat) fun v128 => fx_ls (fx_pt w110 bc p110_3.toNat v128) fun u129 => fx_lt (p110_3 + 1) fun v130 => rec110 v130 u129 else kL_X12_law_138 mL46 a0 bf bcf bh bch bt bct (Int.toNat (16 - 0) + 1) 0 w110)
def kL_X12_law_110 (cL46 : Int) (bs : Nat) (bc : Nat) (mL46 : Int) (a0 : Nat) (bf : Nat) (bcf : Nat) (bh : Nat) (bch : Nat) (bt : Nat) (bct : Nat) : Nat → Int → fx_U → Int × fx_U
  | 0, _, _ => (0, fun _ _ => 0)
  | n + 1, p110_3, w110 => kB_X12_law_110 (kL_X12_law_110 cL46 bs bc mL46 a0 bf bcf bh bch bt bct n) cL46 bs bc mL46 a0 bf bcf bh bch bt bct p110_3 w110
def kJ_X12_law_86 (w46 : fx_U) (a0 : Nat) (p46_2 : Int) (mL46 : Int) (cL46 : Int) (bs : Nat) (bc : Nat) (bf : Nat) (bcf : Nat) (bh : Nat) (bch : Nat) (bt : Nat) (bct : Nat) : Int × fx_U :=
  fx_ls (fx_pt w46 a0 4 0) fun u88 => (if p46_2 = 0 then fx_lt (u88 a0 7) fun v96 => (v96, u88) else fx_ls (fx_pt u88 a0 13 mL46) fun u105 => kL_X12_law_110 cL46 bs bc mL46 a0 bf bcf bh bch bt bct (Int.toNat (260 - 0) + 1) 0 u105)
def kJ_X12_law_82 (rec46 : (Int → fx_U → Int → Int → Int → Int → Int × fx_U)) (p82_s0 : Int) (w82 : fx_U) (cL82 : Int) (wL82 : Int) (pL82 : Int) (mL82 : Int) : Int × fx_U :=
  rec46 p82_s0 w82 cL82 wL82 pL82 mL82
def kJ_X12_law_81 (a0 : Nat) (rec46 : (Int → fx_U → Int → Int → Int → Int → Int × fx_U)) (w81 : fx_U) : Int × fx_U :=
  fx_lt (w81 a0 10) fun q_23v => fx_lt (w81 a0 11) fun q_24v => fx_lt (w81 a0 5) fun q_25v => fx_lt (w81 a0 12) fun q_26v => kJ_X12_law_82 rec46 0 w81 q_23v q_24v q_25v q_26v
def kB_X12_law_46 (rec46 : (Int → fx_U → Int → Int → Int → Int → Int × fx_U)) (a0 : Nat) (bs : Nat) (bc : Nat) (bf : Nat) (bcf : Nat) (bh : Nat) (bch : Nat) (bt : Nat) (bct : Nat) (p46_2 : Int) (w46 : fx_U) (cL46 : Int) (wL46 : Int) (pL46 : Int) (mL46 : Int) : Int × fx_U :=
  (if p46_2 = 0 then kJ_X12_law_86 w46 a0 p46_2 mL46 cL46 bs bc bf bcf bh bch bt bct else fx_lt (w46 a0 6) fun v55 => (if pL46 < v55 then fx_lc (f_X12_takes w46 a0 59) fun v64 u64 => fx_lt (u64 a0 5) fun y64 => (if v64 = 0 then kJ_X12_law_81 a0 rec46 u64 else fx_lc (f_X12_readsClause u64 a0) fun v71 u71 => (if v71 = 0 then kJ_X12_law_81 a0 rec46 u71 else fx_lt (u71 a0 10) fun c6_71 => fx_lt (u71 a0 5) fun p6_71 => fx_lt (u71 a0 12) fun m6_71 => fx_lt (u71 a0 11) fun q_35v => kJ_X12_law_82 rec46 1 u71 c6_71 q_35v p6_71 m6_71)) else kJ_X12_law_86 w46 a0 p46_2 mL46 cL46 bs bc bf bcf bh bch bt bct))
def kL_X12_law_46 (a0 : Nat) (bs : Nat) (bc : Nat) (bf : Nat) (bcf : Nat) (bh : Nat) (bch : Nat) (bt : Nat) (bct : Nat) : Nat → Int → fx_U → Int → Int → Int → Int → Int × fx_U
  | 0, _, _, _, _, _, _ => (0, fun _ _ => 0)
  | n + 1, p46_2, w46, cL46, wL46, pL46, mL46 => kB_X12_law_46 (kL_X12_law_46 a0 bs bc bf bcf bh bch bt bct n) a0 bs bc bf bcf bh bch bt bct p46_2 w46 cL46 wL46 pL46 mL46
def f_X12_law (u : fx_U) (a0 : Nat) (x1 : Int) : Int × fx_U :=
  fx_lt (u a0 4) fun q_1v => fx_lr (u a0 15) fun bs => fx_lr (u a0 16) fun bw => fx_lr (u a0 18) fun bf => fx_lr (u a0 19) fun bh => fx_lr (u a0 20) fun bt => fx_lr (u a0 21) fun bc => fx_lr (u a0 23) fun bcf => fx_lr (u a0 24) fun bch => fx_lr (u a0 25) fun bct => fx_lt (f_X12_in u x1 1 240) fun v5 => (if v5 = 0 then ((-1), u) else (if q_1v < x1 then ((-1), u) else fx_ls (fx_pt u a0 5 0) fun u23 => fx_ls (fx_pt u23 a0 6 x1) fun u28 => fx_ls (fx_pt u28 a0 10 0) fun u33 => fx_ls (fx_pt u33 a0 12 0) fun u38 => fx_lt (u38 a0 11) fun q_6v => fx_lc (f_X12_readsClause u38 a0) fun v42 u42 => fx_lt (u42 a0 10) fun q_36v => fx_lt (u42 a0 11) fun q_37v => fx_lt (u42 a0 5) fun q_38v => fx_lt (u42 a0 12) fun q_39v => kL_X12_law_46 a0 bs bc bf bcf bh bch bt bct (262) v42 u42 q_36v q_37v q_38v q_39v))
