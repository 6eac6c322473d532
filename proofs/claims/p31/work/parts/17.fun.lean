/-! what methods compute: laid by wip/p2/build.py -/
def f_X11_isIn (u : fx_U) (x0 : Int) (x1 : Int) (x2 : Int) : Int :=
  (if x0 < x1 then 0 else (if x2 < x0 then 0 else 1))
def f_J9_max_7cf53 (u : fx_U) (x0 : Int) (x1 : Int) : Int :=
  (if x0 < x1 then x1 else x0)
def f_J9_min_7cf53 (u : fx_U) (x0 : Int) (x1 : Int) : Int :=
  (if x1 < x0 then x1 else x0)
def f_J9_abs_0f7a4 (u : fx_U) (x0 : Int) : Int :=
  (if x0 < 0 then fx_lt (fx_b_neg x0) fun v5 => v5 else x0)
def f_X7_rowOf (u : fx_U) (a0 : Nat) (x1 : Int) : Nat :=
  (if x1 = 0 then fx_lr (u a0 1) fun b5 => b5 else (if x1 = 1 then fx_lr (u a0 2) fun b15 => b15 else fx_lr (u a0 3) fun b22 => b22))
def f_X8_peek (u : fx_U) (a0 : Nat) : Int :=
  fx_lr (u a0 1) fun at1 => fx_lt (u a0 3) fun v1 => (if v1 < 0 then (-1) else fx_lt (u a0 2) fun v12 => (if v1 < v12 then fx_lt (u at1 v1.toNat) fun v26 => v26 else (-1)))
def f_X8_fail (u : fx_U) (a0 : Nat) (x1 : Int) (x2 : Int) : Int × fx_U :=
  fx_lt (fx_b_mul (-1000) x1) fun v5 => fx_lt (fx_b_sub v5 x2) fun v7 => fx_ls (fx_pt u a0 5 v7) fun u8 => (0, u8)
def kB_X8_sumOfAmounts_4 (rec4 : (Int → Int → Int)) (u : fx_U) (a0 : Nat) (p4_1 : Int) (p4_2 : Int) : Int :=
  fx_lt (u a0 4) fun v6 => (if p4_2 < v6 then fx_lr (u a0 0) fun b14 => fx_lt (u b14 p4_2.toNat) fun v18 => fx_lt (f_J9_abs_0f7a4 u v18) fun v19 => fx_lt (fx_b_add p4_1 v19) fun v22 => fx_lt (p4_2 + 1) fun v24 => rec4 v22 v24 else p4_1)
def kL_X8_sumOfAmounts_4 (u : fx_U) (a0 : Nat) : Nat → Int → Int → Int
  | 0, _, _ => 0
  | n + 1, p4_1, p4_2 => kB_X8_sumOfAmounts_4 (kL_X8_sumOfAmounts_4 u a0 n) u a0 p4_1 p4_2
def f_X8_sumOfAmounts (u : fx_U) (a0 : Nat) : Int :=
  kL_X8_sumOfAmounts_4 u a0 (Int.toNat (64 - 0) + 1) 0 0
def kB_X8_readNumber_4 (rec4 : (Int → Int → fx_U → Int × fx_U)) (a0 : Nat) (p4_1 : Int) (p4_2 : Int) (w4 : fx_U) : Int × fx_U :=
  (if p4_2 < 2 then fx_lt (f_X8_peek w4 a0) fun v10 => fx_lt (f_X11_isIn w4 v10 48 57) fun v17 => (if v17 = 0 then (p4_1, w4) else fx_lt (f_J9_max_7cf53 w4 0 p4_1) fun v25 => fx_lt (fx_b_mul v25 10) fun v30 => fx_lt (f_X8_peek w4 a0) fun v32 => fx_lt (fx_b_add v30 v32) fun v35 => fx_lt (fx_b_sub v35 48) fun v38 => fx_lt (w4 a0 3) fun v42 => fx_lt (fx_b_add v42 1) fun v46 => fx_ls (fx_pt w4 a0 3 v46) fun u47 => fx_lt (p4_2 + 1) fun v50 => rec4 v38 v50 u47) else (p4_1, w4))
def kL_X8_readNumber_4 (a0 : Nat) : Nat → Int → Int → fx_U → Int × fx_U
  | 0, _, _, _ => (0, fun _ _ => 0)
  | n + 1, p4_1, p4_2, w4 => kB_X8_readNumber_4 (kL_X8_readNumber_4 a0 n) a0 p4_1 p4_2 w4
def f_X8_readNumber (u : fx_U) (a0 : Nat) : Int × fx_U :=
  fx_lr (u a0 1) fun at1 => kL_X8_readNumber_4 a0 (Int.toNat (2 - 0) + 1) (-1) 0 u
def kJ_X8_readValue_180 (w157 : fx_U) (a0 : Nat) (v1 : Int) : Int × fx_U :=
  fx_lc (f_X8_fail w157 a0 6 v1) fun v184 u184 => (v184, u184)
def kJ_X8_readValue_219 (w191 : fx_U) (b199 : Nat) (F191 : Int) (a0 : Nat) (p191_8 : Int) (rec191 : (Int → fx_U → Int → Int × fx_U)) (p219_s0 : Int) : Int × fx_U :=
  fx_ls (fx_pt w191 b199 F191.toNat p219_s0) fun u219 => fx_lt (F191 + 1) fun v226 => fx_ls (fx_pt u219 a0 4 v226) fun u227 => fx_lt (p191_8 + 1) fun v230 => rec191 v230 u227 v226
def kB_X8_readValue_191 (rec191 : (Int → fx_U → Int → Int × fx_U)) (p157_7 : Int) (a0 : Nat) (p23_s0 : Int) (v51 : Int) (p191_8 : Int) (w191 : fx_U) (F191 : Int) : Int × fx_U :=
  (if p191_8 < p157_7 then fx_lr (w191 a0 0) fun b199 => (if p23_s0 = 0 then kJ_X8_readValue_219 w191 b199 F191 a0 p191_8 rec191 v51 else fx_lt (-v51) fun v213 => kJ_X8_readValue_219 w191 b199 F191 a0 p191_8 rec191 v213) else (1, w191))
def kL_X8_readValue_191 (p157_7 : Int) (a0 : Nat) (p23_s0 : Int) (v51 : Int) : Nat → Int → fx_U → Int → Int × fx_U
  | 0, _, _, _ => (0, fun _ _ => 0)
  | n + 1, p191_8, w191, F191 => kB_X8_readValue_191 (kL_X8_readValue_191 p157_7 a0 p23_s0 v51 n) p157_7 a0 p23_s0 v51 p191_8 w191 F191
def kJ_X8_readValue_157 (a0 : Nat) (x1 : Int) (v1 : Int) (p23_s0 : Int) (v51 : Int) (p157_7 : Int) (w157 : fx_U) : Int × fx_U :=
  fx_lt (w157 a0 4) fun v158 => fx_lt (v158 + p157_7) fun v163 => (if x1 < v163 then kJ_X8_readValue_180 w157 a0 v1 else (if 64 < v163 then kJ_X8_readValue_180 w157 a0 v1 else kL_X8_readValue_191 p157_7 a0 p23_s0 v51 (Int.toNat (64 - 0) + 1) 0 w157 v158))
def kJ_X8_readValue_89 (u51 : fx_U) (a0 : Nat) (x1 : Int) (v1 : Int) (p23_s0 : Int) (v51 : Int) : Int × fx_U :=
  fx_lt (f_X8_peek u51 a0) fun v93 => (if v93 = 42 then fx_lt (u51 a0 3) fun v103 => fx_lt (fx_b_add v103 1) fun v107 => fx_ls (fx_pt u51 a0 3 v107) fun u108 => fx_lc (f_X8_readNumber u108 a0) fun v118 u118 => (if v118 < 0 then fx_lt (u118 a0 3) fun v131 => fx_lc (f_X8_fail u118 a0 1 v131) fun v134 u134 => (v134, u134) else fx_lt (f_X11_isIn u118 v118 2 64) fun v143 => (if v143 = 0 then fx_lc (f_X8_fail u118 a0 3 v107) fun v153 u153 => (v153, u153) else kJ_X8_readValue_157 a0 x1 v1 p23_s0 v51 v118 u118)) else kJ_X8_readValue_157 a0 x1 v1 p23_s0 v51 1 u51)
def kJ_X8_readValue_40 (v1 : Int) (u : fx_U) (a0 : Nat) (p23_s0 : Int) (x1 : Int) (p40_s0 : Int) : Int × fx_U :=
  fx_lt (fx_b_add v1 p40_s0) fun v40 => fx_ls (fx_pt u a0 3 v40) fun u41 => fx_lc (f_X8_readNumber u41 a0) fun v51 u51 => (if v51 < 0 then fx_lt (u51 a0 3) fun v64 => fx_lc (f_X8_fail u51 a0 1 v64) fun v67 u67 => (v67, u67) else (if p23_s0 = 0 then kJ_X8_readValue_89 u51 a0 x1 v1 p23_s0 v51 else (if v51 = 0 then fx_lc (f_X8_fail u51 a0 1 v40) fun v85 u85 => (v85, u85) else kJ_X8_readValue_89 u51 a0 x1 v1 p23_s0 v51)))
def kJ_X8_readValue_23 (v1 : Int) (u : fx_U) (a0 : Nat) (x1 : Int) (p23_s0 : Int) : Int × fx_U :=
  (if p23_s0 = 0 then kJ_X8_readValue_40 v1 u a0 p23_s0 x1 0 else kJ_X8_readValue_40 v1 u a0 p23_s0 x1 1)
def kJ_X8_readValue_22 (v1 : Int) (u : fx_U) (a0 : Nat) (x1 : Int) : Int × fx_U :=
  kJ_X8_readValue_23 v1 u a0 x1 0
def f_X8_readValue (u : fx_U) (a0 : Nat) (x1 : Int) (x2 : Int) : Int × fx_U :=
  fx_lr (u a0 1) fun at1 => fx_lt (u a0 3) fun v1 => (if x2 = 0 then kJ_X8_readValue_22 v1 u a0 x1 else fx_lt (f_X8_peek u a0) fun v10 => (if v10 = 45 then kJ_X8_readValue_23 v1 u a0 x1 1 else kJ_X8_readValue_22 v1 u a0 x1))
def kB_X8_writeTo_2 (rec2 : (Int → fx_U → fx_U)) (x2 : Int) (a0 : Nat) (a1 : Nat) (p2_3 : Int) (w2 : fx_U) : fx_U :=
  (if p2_3 < x2 then (if p2_3 < 64 then (if p2_3 < 64 then fx_lr (w2 a0 0) fun b22 => fx_lt (w2 b22 p2_3.toNat) fun v26 => fx_ls (fx_pt w2 a1 p2_3.toNat v26) fun u27 => fx_lt (p2_3 + 1) fun v28 => rec2 v28 u27 else (fun _ _ => 0)) else w2) else w2)
def kL_X8_writeTo_2 (x2 : Int) (a0 : Nat) (a1 : Nat) : Nat → Int → fx_U → fx_U
  | 0, _, _ => (fun _ _ => 0)
  | n + 1, p2_3, w2 => kB_X8_writeTo_2 (kL_X8_writeTo_2 x2 a0 a1 n) x2 a0 a1 p2_3 w2
def f_X8_writeTo (u : fx_U) (a0 : Nat) (a1 : Nat) (x2 : Int) : fx_U :=
  kL_X8_writeTo_2 x2 a0 a1 (Int.toNat (64 - 0) + 1) 0 u
def kJ_X8_read_126 (a0 : Nat) (w126 : fx_U) : Int × fx_U :=
  fx_lt (w126 a0 5) fun v127 => (if v127 = 0 then fx_lt (f_X8_sumOfAmounts w126 a0) fun v141 => (v141, w126) else (v127, w126))
def kJ_X8_read_101 (a0 : Nat) (x3 : Int) (w101 : fx_U) : Int × fx_U :=
  fx_lt (w101 a0 5) fun v102 => (if v102 = 0 then fx_lt (w101 a0 4) fun v109 => (if v109 < x3 then fx_lt (w101 a0 3) fun v119 => fx_lc (f_X8_fail w101 a0 1 v119) fun v122 u122 => kJ_X8_read_126 a0 u122 else kJ_X8_read_126 a0 w101) else kJ_X8_read_126 a0 w101)
def kB_X8_read_33 (rec33 : (Int → fx_U → Int × fx_U)) (x3 : Int) (a0 : Nat) (x4 : Int) (p33_5 : Int) (w33 : fx_U) : Int × fx_U :=
  (if x3 < p33_5 then kJ_X8_read_101 a0 x3 w33 else fx_lc (f_X8_readValue w33 a0 x3 x4) fun v43 u43 => (if v43 = 0 then kJ_X8_read_101 a0 x3 u43 else fx_lt (u43 a0 3) fun v50 => fx_lt (u43 a0 2) fun v54 => (if v50 < v54 then fx_lt (f_X8_peek u43 a0) fun v64 => (if v64 = 44 then fx_lt (v50 + 1) fun v91 => fx_ls (fx_pt u43 a0 3 v91) fun u92 => fx_lt (p33_5 + 1) fun v95 => rec33 v95 u92 else fx_lc (f_X8_fail u43 a0 1 v50) fun v78 u78 => kJ_X8_read_101 a0 x3 u78) else kJ_X8_read_101 a0 x3 u43)))
def kL_X8_read_33 (x3 : Int) (a0 : Nat) (x4 : Int) : Nat → Int → fx_U → Int × fx_U
  | 0, _, _ => (0, fun _ _ => 0)
  | n + 1, p33_5, w33 => kB_X8_read_33 (kL_X8_read_33 x3 a0 x4 n) x3 a0 x4 p33_5 w33
def f_X8_read (u : fx_U) (a0 : Nat) (a1 : Nat) (x2 : Int) (x3 : Int) (x4 : Int) : Int × fx_U :=
  fx_ls (fx_pt u a0 1 (a1 : Nat)) fun u2 => fx_lt (f_J9_min_7cf53 u2 x2 260) fun v9 => fx_ls (fx_pt u2 a0 2 v9) fun u12 => fx_ls (fx_pt u12 a0 3 0) fun u17 => fx_ls (fx_pt u17 a0 4 0) fun u22 => fx_ls (fx_pt u22 a0 5 0) fun u27 => kL_X8_read_33 x3 a0 x4 (Int.toNat (65 - 0) + 1) 0 u27
def kB_X10_mostBegunAt_52 (rec52 : (Int → Int → Int)) (v8 : Int) (u : fx_U) (a1 : Nat) (p52_5 : Int) (p52_6 : Int) : Int :=
  (if p52_6 < v8 then fx_lr (u a1 3) fun b64 => fx_lt (u b64 p52_6.toNat) fun v69 => fx_lt (fx_b_add p52_5 v69) fun v70 => fx_lt (p52_6 + 1) fun v73 => rec52 v70 v73 else p52_5)
def kL_X10_mostBegunAt_52 (v8 : Int) (u : fx_U) (a1 : Nat) : Nat → Int → Int → Int
  | 0, _, _ => 0
  | n + 1, p52_5, p52_6 => kB_X10_mostBegunAt_52 (kL_X10_mostBegunAt_52 v8 u a1 n) v8 u a1 p52_5 p52_6
def f_X10_mostBegunAt (u : fx_U) (a0 : Nat) (a1 : Nat) (x2 : Int) (x3 : Int) (x4 : Int) : Int :=
  (if x2 < 1 then (-1) else fx_lt (x3 + x4) fun v8 => fx_lt (u a1 0) fun v10 => (if v10 < v8 then (-1) else fx_lr (u a0 0) fun b17 => fx_lt (x2 - 1) fun v22 => fx_lr (u b17 v22.toNat) fun b23 => fx_lt (u b23 v8.toNat) fun v28 => (if v28 < 0 then (-1) else fx_lr (u b17 v22.toNat) fun b41 => fx_lt (u b41 v8.toNat) fun v46 => kL_X10_mostBegunAt_52 v8 u a1 (Int.toNat (64 - x3) + 1) v46 x3)))
def kJ_X10_mostFrom_22 (u : fx_U) (a0 : Nat) (a1 : Nat) (x2 : Int) (x3 : Int) (x4 : Int) (p22_s0 : Int) : Int :=
  fx_lt (f_X10_mostBegunAt u a0 a1 x2 x3 x4) fun v32 => fx_lt (f_J9_max_7cf53 u p22_s0 v32) fun v35 => v35
def f_X10_mostFrom (u : fx_U) (a0 : Nat) (a1 : Nat) (x2 : Int) (x3 : Int) (x4 : Int) : Int :=
  fx_lt (u a1 0) fun v2 => (if x3 < v2 then fx_lr (u a0 0) fun b9 => fx_lr (u b9 x2.toNat) fun b13 => fx_lt (x3 + 1) fun v16 => fx_lt (u b13 v16.toNat) fun v17 => kJ_X10_mostFrom_22 u a0 a1 x2 x3 x4 v17 else kJ_X10_mostFrom_22 u a0 a1 x2 x3 x4 (-1))
def kJ_X10_choose_c0_163 (w76 : fx_U) (a0 : Nat) (x2 : Int) : Int × fx_U :=
  fx_lr (w76 a0 0) fun b164 => fx_lr (w76 b164 x2.toNat) fun b168 => fx_lt (w76 b168 (Int.toNat 0)) fun v170 => (v170, w76)
def kJ_X10_choose_c0_157 (p76_6 : Int) (rec76 : (Int → Int → Int → fx_U → Int × fx_U)) (p157_4 : Int) (p157_5 : Int) (w157 : fx_U) : Int × fx_U :=
  fx_lt (p76_6 + 1) fun v157 => rec76 p157_4 p157_5 v157 w157
def kJ_X10_choose_c0_154 (p76_5 : Int) (p76_6 : Int) (rec76 : (Int → Int → Int → fx_U → Int × fx_U)) (p76_4 : Int) (w76 : fx_U) : Int × fx_U :=
  fx_lt (p76_5 + 1) fun v154 => kJ_X10_choose_c0_157 p76_6 rec76 p76_4 v154 w76
def kB_X10_choose_c0_76 (rec76 : (Int → Int → Int → fx_U → Int × fx_U)) (a1 : Nat) (a0 : Nat) (x3 : Int) (x2 : Int) (p76_4 : Int) (p76_5 : Int) (p76_6 : Int) (w76 : fx_U) : Int × fx_U :=
  fx_lt (w76 a1 0) fun v79 => (if p76_6 < v79 then (if 0 < p76_4 then (if p76_5 < v79 then fx_lt (f_X10_mostBegunAt w76 a0 a1 p76_4 p76_5 x3) fun v106 => (if v106 < 0 then kJ_X10_choose_c0_154 p76_5 p76_6 rec76 p76_4 w76 else fx_lr (w76 a0 0) fun b119 => fx_lr (w76 b119 p76_4.toNat) fun b124 => fx_lt (w76 b124 p76_5.toNat) fun v127 => (if v106 = v127 then fx_lr (w76 a0 1) fun b132 => fx_lt (x2 - p76_4) fun v138 => fx_ls (fx_pt w76 b132 v138.toNat p76_5) fun u141 => fx_lt (p76_4 + (-1)) fun v142 => fx_lt (p76_5 + x3) fun v148 => kJ_X10_choose_c0_157 p76_6 rec76 v142 v148 u141 else kJ_X10_choose_c0_154 p76_5 p76_6 rec76 p76_4 w76)) else kJ_X10_choose_c0_163 w76 a0 x2) else kJ_X10_choose_c0_163 w76 a0 x2) else kJ_X10_choose_c0_163 w76 a0 x2)
def kL_X10_choose_c0_76 (a1 : Nat) (a0 : Nat) (x3 : Int) (x2 : Int) : Nat → Int → Int → Int → fx_U → Int × fx_U
  | 0, _, _, _, _ => (0, fun _ _ => 0)
  | n + 1, p76_4, p76_5, p76_6, w76 => kB_X10_choose_c0_76 (kL_X10_choose_c0_76 a1 a0 x3 x2 n) a1 a0 x3 x2 p76_4 p76_5 p76_6 w76
def kJ_X10_choose_c0_67 (a1 : Nat) (a0 : Nat) (x3 : Int) (x2 : Int) (w3 : fx_U) : Int × fx_U :=
  kL_X10_choose_c0_76 a1 a0 x3 x2 (Int.toNat (64 - 0) + 1) x2 0 0 w3
def kJ_X10_choose_c0_54 (w21 : fx_U) (b32 : Nat) (p21_5 : Int) (rec21 : (Int → fx_U → Int × fx_U)) (p54_s0 : Int) : Int × fx_U :=
  fx_ls (fx_pt w21 b32 p21_5.toNat p54_s0) fun u54 => fx_lt (p21_5 + (-1)) fun v55 => rec21 v55 u54
def kB_X10_choose_c0_21 (rec21 : (Int → fx_U → Int × fx_U)) (p3_4 : Int) (rec3 : (Int → fx_U → Int × fx_U)) (a0 : Nat) (a1 : Nat) (x3 : Int) (p21_5 : Int) (w21 : fx_U) : Int × fx_U :=
  (if p21_5 < 0 then fx_lt (p3_4 + 1) fun v61 => rec3 v61 w21 else fx_lr (w21 a0 0) fun b27 => fx_lr (w21 b27 p3_4.toNat) fun b32 => (if p3_4 = 0 then kJ_X10_choose_c0_54 w21 b32 p21_5 rec21 0 else fx_lt (f_X10_mostFrom w21 a0 a1 p3_4 p21_5 x3) fun v51 => kJ_X10_choose_c0_54 w21 b32 p21_5 rec21 v51))
def kL_X10_choose_c0_21 (p3_4 : Int) (rec3 : (Int → fx_U → Int × fx_U)) (a0 : Nat) (a1 : Nat) (x3 : Int) : Nat → Int → fx_U → Int × fx_U
  | 0, _, _ => (0, fun _ _ => 0)
  | n + 1, p21_5, w21 => kB_X10_choose_c0_21 (kL_X10_choose_c0_21 p3_4 rec3 a0 a1 x3 n) p3_4 rec3 a0 a1 x3 p21_5 w21
def kB_X10_choose_c0_3 (rec3 : (Int → fx_U → Int × fx_U)) (x2 : Int) (a1 : Nat) (a0 : Nat) (x3 : Int) (p3_4 : Int) (w3 : fx_U) : Int × fx_U :=
  (if x2 < p3_4 then kJ_X10_choose_c0_67 a1 a0 x3 x2 w3 else (if 4 < p3_4 then (0, fun _ _ => 0) else fx_lt (w3 a1 0) fun v16 => kL_X10_choose_c0_21 p3_4 rec3 a0 a1 x3 (Int.toNat (v16 - (-1)) + 1) v16 w3))
def kL_X10_choose_c0_3 (x2 : Int) (a1 : Nat) (a0 : Nat) (x3 : Int) : Nat → Int → fx_U → Int × fx_U
  | 0, _, _ => (0, fun _ _ => 0)
  | n + 1, p3_4, w3 => kB_X10_choose_c0_3 (kL_X10_choose_c0_3 x2 a1 a0 x3 n) x2 a1 a0 x3 p3_4 w3
def kJ_X10_choose_c1_163 (w76 : fx_U) (a0 : Nat) (x2 : Int) : Int × fx_U :=
  fx_lr (w76 a0 0) fun b164 => fx_lr (w76 b164 x2.toNat) fun b168 => fx_lt (w76 b168 (Int.toNat 0)) fun v170 => (v170, w76)
def kJ_X10_choose_c1_157 (p76_6 : Int) (rec76 : (Int → Int → Int → fx_U → Int × fx_U)) (p157_4 : Int) (p157_5 : Int) (w157 : fx_U) : Int × fx_U :=
  fx_lt (p76_6 + 1) fun v157 => rec76 p157_4 p157_5 v157 w157
def kJ_X10_choose_c1_154 (p76_5 : Int) (p76_6 : Int) (rec76 : (Int → Int → Int → fx_U → Int × fx_U)) (p76_4 : Int) (w76 : fx_U) : Int × fx_U :=
  fx_lt (p76_5 + 1) fun v154 => kJ_X10_choose_c1_157 p76_6 rec76 p76_4 v154 w76
def kB_X10_choose_c1_76 (rec76 : (Int → Int → Int → fx_U → Int × fx_U)) (a1 : Nat) (a0 : Nat) (x3 : Int) (x2 : Int) (p76_4 : Int) (p76_5 : Int) (p76_6 : Int) (w76 : fx_U) : Int × fx_U :=
  fx_lt (w76 a1 0) fun v79 => (if p76_6 < v79 then (if 0 < p76_4 then (if p76_5 < v79 then fx_lt (f_X10_mostBegunAt w76 a0 a1 p76_4 p76_5 x3) fun v106 => (if v106 < 0 then kJ_X10_choose_c1_154 p76_5 p76_6 rec76 p76_4 w76 else fx_lr (w76 a0 0) fun b119 => fx_lr (w76 b119 p76_4.toNat) fun b124 => fx_lt (w76 b124 p76_5.toNat) fun v127 => (if v106 = v127 then fx_lr (w76 a0 1) fun b132 => fx_lt (x2 - p76_4) fun v138 => fx_ls (fx_pt w76 b132 v138.toNat p76_5) fun u141 => fx_lt (p76_4 + (-1)) fun v142 => fx_lt (p76_5 + x3) fun v148 => kJ_X10_choose_c1_157 p76_6 rec76 v142 v148 u141 else kJ_X10_choose_c1_154 p76_5 p76_6 rec76 p76_4 w76)) else kJ_X10_choose_c1_163 w76 a0 x2) else kJ_X10_choose_c1_163 w76 a0 x2) else kJ_X10_choose_c1_163 w76 a0 x2)
def kL_X10_choose_c1_76 (a1 : Nat) (a0 : Nat) (x3 : Int) (x2 : Int) : Nat → Int → Int → Int → fx_U → Int × fx_U
  | 0, _, _, _, _ => (0, fun _ _ => 0)
  | n + 1, p76_4, p76_5, p76_6, w76 => kB_X10_choose_c1_76 (kL_X10_choose_c1_76 a1 a0 x3 x2 n) a1 a0 x3 x2 p76_4 p76_5 p76_6 w76
def kJ_X10_choose_c1_67 (a1 : Nat) (a0 : Nat) (x3 : Int) (x2 : Int) (w3 : fx_U) : Int × fx_U :=
  kL_X10_choose_c1_76 a1 a0 x3 x2 (Int.toNat (64 - 0) + 1) x2 0 0 w3
def kJ_X10_choose_c1_54 (w21 : fx_U) (b32 : Nat) (p21_5 : Int) (rec21 : (Int → fx_U → Int × fx_U)) (p54_s0 : Int) : Int × fx_U :=
  fx_ls (fx_pt w21 b32 p21_5.toNat p54_s0) fun u54 => fx_lt (p21_5 + (-1)) fun v55 => rec21 v55 u54
def kB_X10_choose_c1_21 (rec21 : (Int → fx_U → Int × fx_U)) (p3_4 : Int) (rec3 : (Int → fx_U → Int × fx_U)) (a0 : Nat) (a1 : Nat) (x3 : Int) (p21_5 : Int) (w21 : fx_U) : Int × fx_U :=
  (if p21_5 < 0 then fx_lt (p3_4 + 1) fun v61 => rec3 v61 w21 else fx_lr (w21 a0 0) fun b27 => fx_lr (w21 b27 p3_4.toNat) fun b32 => (if p3_4 = 0 then kJ_X10_choose_c1_54 w21 b32 p21_5 rec21 0 else fx_lt (f_X10_mostFrom w21 a0 a1 p3_4 p21_5 x3) fun v51 => kJ_X10_choose_c1_54 w21 b32 p21_5 rec21 v51))
def kL_X10_choose_c1_21 (p3_4 : Int) (rec3 : (Int → fx_U → Int × fx_U)) (a0 : Nat) (a1 : Nat) (x3 : Int) : Nat → Int → fx_U → Int × fx_U
  | 0, _, _ => (0, fun _ _ => 0)
  | n + 1, p21_5, w21 => kB_X10_choose_c1_21 (kL_X10_choose_c1_21 p3_4 rec3 a0 a1 x3 n) p3_4 rec3 a0 a1 x3 p21_5 w21
def kB_X10_choose_c1_3 (rec3 : (Int → fx_U → Int × fx_U)) (x2 : Int) (a1 : Nat) (a0 : Nat) (x3 : Int) (p3_4 : Int) (w3 : fx_U) : Int × fx_U :=
  (if x2 < p3_4 then kJ_X10_choose_c1_67 a1 a0 x3 x2 w3 else (if 4 < p3_4 then (0, fun _ _ => 0) else fx_lt (w3 a1 0) fun v16 => kL_X10_choose_c1_21 p3_4 rec3 a0 a1 x3 (Int.toNat (v16 - (-1)) + 1) v16 w3))
def kL_X10_choose_c1_3 (x2 : Int) (a1 : Nat) (a0 : Nat) (x3 : Int) : Nat → Int → fx_U → Int × fx_U
  | 0, _, _ => (0, fun _ _ => 0)
  | n + 1, p3_4, w3 => kB_X10_choose_c1_3 (kL_X10_choose_c1_3 x2 a1 a0 x3 n) x2 a1 a0 x3 p3_4 w3
def kJ_X10_choose_c2_163 (w76 : fx_U) (a0 : Nat) (x2 : Int) : Int × fx_U :=
  fx_lr (w76 a0 0) fun b164 => fx_lr (w76 b164 x2.toNat) fun b168 => fx_lt (w76 b168 (Int.toNat 0)) fun v170 => (v170, w76)
def kJ_X10_choose_c2_157 (p76_6 : Int) (rec76 : (Int → Int → Int → fx_U → Int × fx_U)) (p157_4 : Int) (p157_5 : Int) (w157 : fx_U) : Int × fx_U :=
  fx_lt (p76_6 + 1) fun v157 => rec76 p157_4 p157_5 v157 w157
def kJ_X10_choose_c2_154 (p76_5 : Int) (p76_6 : Int) (rec76 : (Int → Int → Int → fx_U → Int × fx_U)) (p76_4 : Int) (w76 : fx_U) : Int × fx_U :=
  fx_lt (p76_5 + 1) fun v154 => kJ_X10_choose_c2_157 p76_6 rec76 p76_4 v154 w76
def kB_X10_choose_c2_76 (rec76 : (Int → Int → Int → fx_U → Int × fx_U)) (a1 : Nat) (a0 : Nat) (x3 : Int) (x2 : Int) (p76_4 : Int) (p76_5 : Int) (p76_6 : Int) (w76 : fx_U) : Int × fx_U :=
  fx_lt (w76 a1 0) fun v79 => (if p76_6 < v79 then (if 0 < p76_4 then (if p76_5 < v79 then fx_lt (f_X10_mostBegunAt w76 a0 a1 p76_4 p76_5 x3) fun v106 => (if v106 < 0 then kJ_X10_choose_c2_154 p76_5 p76_6 rec76 p76_4 w76 else fx_lr (w76 a0 0) fun b119 => fx_lr (w76 b119 p76_4.toNat) fun b124 => fx_lt (w76 b124 p76_5.toNat) fun v127 => (if v106 = v127 then fx_lr (w76 a0 1) fun b132 => fx_lt (x2 - p76_4) fun v138 => fx_ls (fx_pt w76 b132 v138.toNat p76_5) fun u141 => fx_lt (p76_4 + (-1)) fun v142 => fx_lt (p76_5 + x3) fun v148 => kJ_X10_choose_c2_157 p76_6 rec76 v142 v148 u141 else kJ_X10_choose_c2_154 p76_5 p76_6 rec76 p76_4 w76)) else kJ_X10_choose_c2_163 w76 a0 x2) else kJ_X10_choose_c2_163 w76 a0 x2) else kJ_X10_choose_c2_163 w76 a0 x2)
def kL_X10_choose_c2_76 (a1 : Nat) (a0 : Nat) (x3 : Int) (x2 : Int) : Nat → Int → Int → Int → fx_U → Int × fx_U
  | 0, _, _, _, _ => (0, fun _ _ => 0)
  | n + 1, p76_4, p76_5, p76_6, w76 => kB_X10_choose_c2_76 (kL_X10_choose_c2_76 a1 a0 x3 x2 n) a1 a0 x3 x2 p76_4 p76_5 p76_6 w76
def kJ_X10_choose_c2_67 (a1 : Nat) (a0 : Nat) (x3 : Int) (x2 : Int) (w3 : fx_U) : Int × fx_U :=
  kL_X10_choose_c2_76 a1 a0 x3 x2 (Int.toNat (64 - 0) + 1) x2 0 0 w3
def kJ_X10_choose_c2_54 (w21 : fx_U) (b32 : Nat) (p21_5 : Int) (rec21 : (Int → fx_U → Int × fx_U)) (p54_s0 : Int) : Int × fx_U :=
  fx_ls (fx_pt w21 b32 p21_5.toNat p54_s0) fun u54 => fx_lt (p21_5 + (-1)) fun v55 => rec21 v55 u54
def kB_X10_choose_c2_21 (rec21 : (Int → fx_U → Int × fx_U)) (p3_4 : Int) (rec3 : (Int → fx_U → Int × fx_U)) (a0 : Nat) (a1 : Nat) (x3 : Int) (p21_5 : Int) (w21 : fx_U) : Int × fx_U :=
  (if p21_5 < 0 then fx_lt (p3_4 + 1) fun v61 => rec3 v61 w21 else fx_lr (w21 a0 0) fun b27 => fx_lr (w21 b27 p3_4.toNat) fun b32 => (if p3_4 = 0 then kJ_X10_choose_c2_54 w21 b32 p21_5 rec21 0 else fx_lt (f_X10_mostFrom w21 a0 a1 p3_4 p21_5 x3) fun v51 => kJ_X10_choose_c2_54 w21 b32 p21_5 rec21 v51))
def kL_X10_choose_c2_21 (p3_4 : Int) (rec3 : (Int → fx_U → Int × fx_U)) (a0 : Nat) (a1 : Nat) (x3 : Int) : Nat → Int → fx_U → Int × fx_U
  | 0, _, _ => (0, fun _ _ => 0)
  | n + 1, p21_5, w21 => kB_X10_choose_c2_21 (kL_X10_choose_c2_21 p3_4 rec3 a0 a1 x3 n) p3_4 rec3 a0 a1 x3 p21_5 w21
def kB_X10_choose_c2_3 (rec3 : (Int → fx_U → Int × fx_U)) (x2 : Int) (a1 : Nat) (a0 : Nat) (x3 : Int) (p3_4 : Int) (w3 : fx_U) : Int × fx_U :=
  (if x2 < p3_4 then kJ_X10_choose_c2_67 a1 a0 x3 x2 w3 else (if 4 < p3_4 then (0, fun _ _ => 0) else fx_lt (w3 a1 0) fun v16 => kL_X10_choose_c2_21 p3_4 rec3 a0 a1 x3 (Int.toNat (v16 - (-1)) + 1) v16 w3))
def kL_X10_choose_c2_3 (x2 : Int) (a1 : Nat) (a0 : Nat) (x3 : Int) : Nat → Int → fx_U → Int × fx_U
  | 0, _, _ => (0, fun _ _ => 0)
  | n + 1, p3_4, w3 => kB_X10_choose_c2_3 (kL_X10_choose_c2_3 x2 a1 a0 x3 n) x2 a1 a0 x3 p3_4 w3
def kJ_X10_choose_c3_163 (w76 : fx_U) (a0 : Nat) (x2 : Int) : Int × fx_U :=
  fx_lr (w76 a0 0) fun b164 => fx_lr (w76 b164 x2.toNat) fun b168 => fx_lt (w76 b168 (Int.toNat 0)) fun v170 => (v170, w76)
def kJ_X10_choose_c3_157 (p76_6 : Int) (rec76 : (Int → Int → Int → fx_U → Int × fx_U)) (p157_4 : Int) (p157_5 : Int) (w157 : fx_U) : Int × fx_U :=
  fx_lt (p76_6 + 1) fun v157 => rec76 p157_4 p157_5 v157 w157
def kJ_X10_choose_c3_154 (p76_5 : Int) (p76_6 : Int) (rec76 : (Int → Int → Int → fx_U → Int × fx_U)) (p76_4 : Int) (w76 : fx_U) : Int × fx_U :=
  fx_lt (p76_5 + 1) fun v154 => kJ_X10_choose_c3_157 p76_6 rec76 p76_4 v154 w76
def kB_X10_choose_c3_76 (rec76 : (Int → Int → Int → fx_U → Int × fx_U)) (a1 : Nat) (a0 : Nat) (x3 : Int) (x2 : Int) (p76_4 : Int) (p76_5 : Int) (p76_6 : Int) (w76 : fx_U) : Int × fx_U :=
  fx_lt (w76 a1 0) fun v79 => (if p76_6 < v79 then (if 0 < p76_4 then (if p76_5 < v79 then fx_lt (f_X10_mostBegunAt w76 a0 a1 p76_4 p76_5 x3) fun v106 => (if v106 < 0 then kJ_X10_choose_c3_154 p76_5 p76_6 rec76 p76_4 w76 else fx_lr (w76 a0 0) fun b119 => fx_lr (w76 b119 p76_4.toNat) fun b124 => fx_lt (w76 b124 p76_5.toNat) fun v127 => (if v106 = v127 then fx_lr (w76 a0 1) fun b132 => fx_lt (x2 - p76_4) fun v138 => fx_ls (fx_pt w76 b132 v138.toNat p76_5) fun u141 => fx_lt (p76_4 + (-1)) fun v142 => fx_lt (p76_5 + x3) fun v148 => kJ_X10_choose_c3_157 p76_6 rec76 v142 v148 u141 else kJ_X10_choose_c3_154 p76_5 p76_6 rec76 p76_4 w76)) else kJ_X10_choose_c3_163 w76 a0 x2) else kJ_X10_choose_c3_163 w76 a0 x2) else kJ_X10_choose_c3_163 w76 a0 x2)
def kL_X10_choose_c3_76 (a1 : Nat) (a0 : Nat) (x3 : Int) (x2 : Int) : Nat → Int → Int → Int → fx_U → Int × fx_U
  | 0, _, _, _, _ => (0, fun _ _ => 0)
  | n + 1, p76_4, p76_5, p76_6, w76 => kB_X10_choose_c3_76 (kL_X10_choose_c3_76 a1 a0 x3 x2 n) a1 a0 x3 x2 p76_4 p76_5 p76_6 w76
def kJ_X10_choose_c3_67 (a1 : Nat) (a0 : Nat) (x3 : Int) (x2 : Int) (w3 : fx_U) : Int × fx_U :=
  kL_X10_choose_c3_76 a1 a0 x3 x2 (Int.toNat (64 - 0) + 1) x2 0 0 w3
def kJ_X10_choose_c3_54 (w21 : fx_U) (b32 : Nat) (p21_5 : Int) (rec21 : (Int → fx_U → Int × fx_U)) (p54_s0 : Int) : Int × fx_U :=
  fx_ls (fx_pt w21 b32 p21_5.toNat p54_s0) fun u54 => fx_lt (p21_5 + (-1)) fun v55 => rec21 v55 u54
def kB_X10_choose_c3_21 (rec21 : (Int → fx_U → Int × fx_U)) (p3_4 : Int) (rec3 : (Int → fx_U → Int × fx_U)) (a0 : Nat) (a1 : Nat) (x3 : Int) (p21_5 : Int) (w21 : fx_U) : Int × fx_U :=
  (if p21_5 < 0 then fx_lt (p3_4 + 1) fun v61 => rec3 v61 w21 else fx_lr (w21 a0 0) fun b27 => fx_lr (w21 b27 p3_4.toNat) fun b32 => (if p3_4 = 0 then kJ_X10_choose_c3_54 w21 b32 p21_5 rec21 0 else fx_lt (f_X10_mostFrom w21 a0 a1 p3_4 p21_5 x3) fun v51 => kJ_X10_choose_c3_54 w21 b32 p21_5 rec21 v51))
def kL_X10_choose_c3_21 (p3_4 : Int) (rec3 : (Int → fx_U → Int × fx_U)) (a0 : Nat) (a1 : Nat) (x3 : Int) : Nat → Int → fx_U → Int × fx_U
  | 0, _, _ => (0, fun _ _ => 0)
  | n + 1, p21_5, w21 => kB_X10_choose_c3_21 (kL_X10_choose_c3_21 p3_4 rec3 a0 a1 x3 n) p3_4 rec3 a0 a1 x3 p21_5 w21
def kB_X10_choose_c3_3 (rec3 : (Int → fx_U → Int × fx_U)) (x2 : Int) (a1 : Nat) (a0 : Nat) (x3 : Int) (p3_4 : Int) (w3 : fx_U) : Int × fx_U :=
  (if x2 < p3_4 then kJ_X10_choose_c3_67 a1 a0 x3 x2 w3 else (if 4 < p3_4 then (0, fun _ _ => 0) else fx_lt (w3 a1 0) fun v16 => kL_X10_choose_c3_21 p3_4 rec3 a0 a1 x3 (Int.toNat (v16 - (-1)) + 1) v16 w3))
def kL_X10_choose_c3_3 (x2 : Int) (a1 : Nat) (a0 : Nat) (x3 : Int) : Nat → Int → fx_U → Int × fx_U
  | 0, _, _ => (0, fun _ _ => 0)
  | n + 1, p3_4, w3 => kB_X10_choose_c3_3 (kL_X10_choose_c3_3 x2 a1 a0 x3 n) x2 a1 a0 x3 p3_4 w3
def f_X10_choose (u : fx_U) (a0 : Nat) (a1 : Nat) (x2 : Int) (x3 : Int) : Int × fx_U :=
  (if x2 = 1 then kL_X10_choose_c0_3 x2 a1 a0 x3 (Int.toNat (2 - 0) + 1) 0 u else (if x2 = 2 then kL_X10_choose_c1_3 x2 a1 a0 x3 (Int.toNat (3 - 0) + 1) 0 u else (if x2 = 3 then kL_X10_choose_c2_3 x2 a1 a0 x3 (Int.toNat (4 - 0) + 1) 0 u else kL_X10_choose_c3_3 x2 a1 a0 x3 (Int.toNat (5 - 0) + 1) 0 u)))
def kJ_X11_row_54 (u : fx_U) (b30 : Nat) (b34 : Nat) (x2 : Int) (v42 : Int) (a0 : Nat) (b39 : Nat) (x1 : Int) (p54_s0 : Int) : Int × fx_U :=
  fx_lc (f_X8_read u b30 b34 x2 v42 p54_s0) fun v54 u54 => fx_ls (fx_pt u54 a0 1 0) fun u60 => (if v54 < 0 then (v54, u60) else fx_lq (f_X7_rowOf u60 b39 x1) fun b76 => fx_ls (f_X8_writeTo u60 b30 b76 v42) fun u86 => (v54, u86))
def f_X11_row (u : fx_U) (a0 : Nat) (x1 : Int) (x2 : Int) : Int × fx_U :=
  fx_lt (u a0 1) fun q_1v => fx_lt (f_X11_isIn u x1 0 2) fun v3 => (if v3 = 0 then ((-1), u) else fx_lt (f_X11_isIn u x2 1 120) fun v13 => (if v13 = 0 then ((-1), u) else (if q_1v < x2 then ((-1), u) else fx_lr (u a0 2) fun b30 => fx_lr (u a0 0) fun b34 => fx_lr (u a0 5) fun b39 => fx_lt (u b39 0) fun v42 => (if x1 = 0 then kJ_X11_row_54 u b30 b34 x2 v42 a0 b39 x1 1 else kJ_X11_row_54 u b30 b34 x2 v42 a0 b39 x1 0))))
def kB_X11_putOnTape_3 (rec3 : (Int → fx_U → Int → fx_U)) (a0 : Nat) (x1 : Int) (p3_2 : Int) (w3 : fx_U) (F3 : Int) : fx_U :=
  (if p3_2 < 0 then w3 else (if F3 < 260 then fx_lr (w3 a0 0) fun b18 => fx_lt (fx_b_ushr x1 p3_2) fun v27 => fx_lt (fx_b_and v27 255) fun v31 => fx_ls (fx_pt w3 b18 F3.toNat v31) fun u32 => fx_lt (F3 + 1) fun v39 => fx_ls (fx_pt u32 a0 1 v39) fun u40 => fx_lt (p3_2 + (-8)) fun v43 => rec3 v43 u40 v39 else w3))
def kL_X11_putOnTape_3 (a0 : Nat) (x1 : Int) : Nat → Int → fx_U → Int → fx_U
  | 0, _, _, _ => (fun _ _ => 0)
  | n + 1, p3_2, w3, F3 => kB_X11_putOnTape_3 (kL_X11_putOnTape_3 a0 x1 n) a0 x1 p3_2 w3 F3
def f_X11_putOnTape (u : fx_U) (a0 : Nat) (x1 : Int) : fx_U :=
  fx_lt (u a0 1) fun q_1v => kL_X11_putOnTape_3 a0 x1 (Int.toNat (24 - (-8)) + 1) 24 u q_1v
def f_X11_feed (u : fx_U) (a0 : Nat) (x1 : Int) (x2 : Int) (x3 : Int) (x4 : Int) (x5 : Int) : Int × fx_U :=
  fx_lt (u a0 1) fun q_1v => (if 240 < q_1v then ((-1), u) else fx_ls (f_X11_putOnTape u a0 x1) fun u14 => fx_lt (u14 a0 1) fun t14 => fx_ls (f_X11_putOnTape u14 a0 x2) fun u19 => fx_lt (u19 a0 1) fun t19 => fx_ls (f_X11_putOnTape u19 a0 x3) fun u24 => fx_lt (u24 a0 1) fun t24 => fx_ls (f_X11_putOnTape u24 a0 x4) fun u30 => fx_lt (u30 a0 1) fun t30 => fx_ls (f_X11_putOnTape u30 a0 x5) fun u36 => fx_lt (u36 a0 1) fun t36 => (t36, u36))
def kJ_X11_renewed_38 (x1 : Int) (x2 : Int) (u : fx_U) (a0 : Nat) (x3 : Int) : Int × fx_U :=
  fx_lt (x1 * x2) fun v40 => fx_lr (u a0 5) fun b42 => fx_lt (u b42 0) fun v45 => (if v45 < v40 then ((-2), u) else fx_lr (u a0 12) fun b55 => fx_lc (f_X10_choose u b55 b42 x1 x2) fun v64 u64 => (if x3 = 10 then (v64, u64) else fx_lr (u64 b55 1) fun b84 => fx_lt (u64 b84 x3.toNat) fun v88 => (v88, u64)))
def f_X11_renewed (u : fx_U) (a0 : Nat) (x1 : Int) (x2 : Int) (x3 : Int) : Int × fx_U :=
  fx_lt (f_X11_isIn u x1 1 4) fun v3 => (if v3 = 0 then ((-1), u) else fx_lt (f_X11_isIn u x2 1 16) fun v13 => (if v13 = 0 then ((-1), u) else (if x3 = 10 then kJ_X11_renewed_38 x1 x2 u a0 x3 else fx_lt (x1 - 1) fun v29 => fx_lt (f_X11_isIn u x3 0 v29) fun v30 => (if v30 = 0 then ((-1), u) else kJ_X11_renewed_38 x1 x2 u a0 x3))))
def f_X12_in (u : fx_U) (x0 : Int) (x1 : Int) (x2 : Int) : Int :=
  (if x0 < x1 then 0 else (if x2 < x0 then 0 else 1))
def f_X12_max (u : fx_U) (x0 : Int) (x1 : Int) : Int :=
  (if x1 < x0 then x0 else x1)
def f_X12_size (u : fx_U) (x0 : Int) : Int :=
  (if x0 < 0 then fx_lt (fx_b_neg x0) fun v5 => v5 else x0)
def f_X12_wrongAt (u : fx_U) (a0 : Nat) (x1 : Int) (x2 : Int) : Int × fx_U :=
  fx_lt (fx_b_mul (-1000) x1) fun v5 => fx_lt (fx_b_sub v5 x2) fun v7 => fx_ls (fx_pt u a0 7 v7) fun u8 => (0, u8)
def kB_X12_wearIn_5 (rec5 : (Int → Int → Int)) (x1 : Int) (x2 : Int) (u : fx_U) (q_1b : Nat) (p5_3 : Int) (p5_4 : Int) : Int :=
  fx_lt (x1 + x2) fun v9 => (if p5_4 < v9 then fx_lt (128 + p5_4) fun v23 => fx_lt (u q_1b v23.toNat) fun v24 => fx_lt (fx_b_add p5_3 v24) fun v25 => fx_lt (p5_4 + 1) fun v27 => rec5 v25 v27 else p5_3)
def kL_X12_wearIn_5 (x1 : Int) (x2 : Int) (u : fx_U) (q_1b : Nat) : Nat → Int → Int → Int
  | 0, _, _ => 0
  | n + 1, p5_3, p5_4 => kB_X12_wearIn_5 (kL_X12_wearIn_5 x1 x2 u q_1b n) x1 x2 u q_1b p5_3 p5_4
def f_X12_wearIn (u : fx_U) (a0 : Nat) (x1 : Int) (x2 : Int) : Int :=
  fx_lr (u a0 0) fun q_1b => kL_X12_wearIn_5 x1 x2 u q_1b (Int.toNat (80 - x1) + 1) 0 x1
def f_X12_wearFrom (u : fx_U) (a0 : Nat) (x1 : Int) (x2 : Int) : Int :=
  fx_lr (u a0 43) fun b1 => fx_lt (65 * x1) fun v7 => fx_lt (v7 + x2) fun v9 => fx_lt (u b1 v9.toNat) fun v10 => v10
def kB_X12_types_2 (rec2 : (Int → fx_U → Int → fx_U)) (a0 : Nat) (x1 : Int) (p2_2 : Int) (w2 : fx_U) (F2 : Int) : fx_U :=
  (if p2_2 < 0 then w2 else fx_lr (w2 a0 3) fun b7 => fx_lt (8 * p2_2) fun v18 => fx_lt (fx_b_shr x1 v18) fun v19 => fx_lt (fx_b_i2b v19) fun v20 => fx_ls (fx_pt w2 b7 F2.toNat (fx_b_i2b v20)) fun u21 => fx_lt (F2 + 1) fun v28 => fx_ls (fx_pt u21 a0 4 v28) fun u29 => fx_lt (p2_2 + (-1)) fun v32 => rec2 v32 u29 v28)
def kL_X12_types_2 (a0 : Nat) (x1 : Int) : Nat → Int → fx_U → Int → fx_U
  | 0, _, _, _ => (fun _ _ => 0)
  | n + 1, p2_2, w2, F2 => kB_X12_types_2 (kL_X12_types_2 a0 x1 n) a0 x1 p2_2 w2 F2
def f_X12_types (u : fx_U) (a0 : Nat) (x1 : Int) : fx_U :=
  fx_lt (u a0 4) fun t => kL_X12_types_2 a0 x1 (Int.toNat (3 - (-1)) + 1) 3 u t
def f_X12_feed (u : fx_U) (a0 : Nat) (x1 : Int) (x2 : Int) (x3 : Int) (x4 : Int) (x5 : Int) : Int × fx_U :=
  fx_lt (u a0 4) fun q_1v => fx_lt (q_1v + 20) fun v6 => (if 260 < v6 then ((-1), u) else fx_ls (f_X12_types u a0 x1) fun u17 => fx_lt (u17 a0 4) fun t17 => fx_ls (f_X12_types u17 a0 x2) fun u22 => fx_lt (u22 a0 4) fun t22 => fx_ls (f_X12_types u22 a0 x3) fun u27 => fx_lt (u27 a0 4) fun t27 => fx_ls (f_X12_types u27 a0 x4) fun u33 => fx_lt (u33 a0 4) fun t33 => fx_ls (f_X12_types u33 a0 x5) fun u39 => fx_lt (u39 a0 4) fun t39 => (t39, u39))
def f_X12_here (u : fx_U) (a0 : Nat) : Int :=
  fx_lt (u a0 5) fun q_1v => fx_lt (u a0 6) fun q_2v => fx_lr (u a0 3) fun q_3b => (if q_1v < q_2v then fx_lt (u q_3b q_1v.toNat) fun v19 => fx_lt (fx_b_and v19 255) fun v23 => v23 else (-1))
def f_X12_isDigit (u : fx_U) (a0 : Nat) : Int :=
  fx_lt (u a0 5) fun q_1v => fx_lt (f_X12_here u a0) fun v1 => (if v1 < 48 then 0 else fx_lt (f_X12_here u a0) fun v10 => (if 57 < v10 then 0 else 1))
def f_X12_takes (u : fx_U) (a0 : Nat) (x1 : Int) : Int × fx_U :=
  fx_lt (u a0 5) fun q_1v => fx_lt (f_X12_here u a0) fun v1 => (if v1 = x1 then fx_lt (q_1v + 1) fun v24 => fx_ls (fx_pt u a0 5 v24) fun u25 => (1, u25) else fx_lc (f_X12_wrongAt u a0 1 q_1v) fun v14 u14 => (v14, u14))
def kB_X12_readsTwo_27 (rec27 : (fx_U → Int → Int → Int × fx_U)) (a0 : Nat) (q_1v : Int) (w27 : fx_U) (F27 : Int) (G27 : Int) : Int × fx_U :=
  fx_lt (f_X12_isDigit w27 a0) fun v28 => (if v28 = 0 then (1, w27) else fx_lt (q_1v + 2) fun v40 => (if F27 < v40 then fx_lt (10 * G27) fun v51 => fx_lt (f_X12_here w27 a0) fun v53 => fx_lt (v51 + v53) fun v56 => fx_lt (v56 - 48) fun v59 => fx_ls (fx_pt w27 a0 8 v59) fun u60 => fx_lt (F27 + 1) fun v69 => fx_ls (fx_pt u60 a0 5 v69) fun u70 => rec27 u70 v69 v59 else (1, w27)))
def kL_X12_readsTwo_27 (a0 : Nat) (q_1v : Int) : Nat → fx_U → Int → Int → Int × fx_U
  | 0, _, _, _ => (0, fun _ _ => 0)
  | n + 1, w27, F27, G27 => kB_X12_readsTwo_27 (kL_X12_readsTwo_27 a0 q_1v n) a0 q_1v w27 F27 G27
def f_X12_readsTwo (u : fx_U) (a0 : Nat) : Int × fx_U :=
  fx_lt (u a0 5) fun q_1v => fx_lt (f_X12_isDigit u a0) fun v6 => (if v6 = 0 then fx_lc (f_X12_wrongAt u a0 1 q_1v) fun v18 u18 => (v18, u18) else fx_ls (fx_pt u a0 8 0) fun u24 => kL_X12_readsTwo_27 a0 q_1v (Int.toNat (260 - q_1v) + 1) u24 q_1v 0)
def kB_X12_readsValue_183 (rec183 : (Int → fx_U → Int → Int → Int × fx_U)) (p154_6 : Int) (a0 : Nat) (p88_s0 : Int) (p183_7 : Int) (w183 : fx_U) (F183 : Int) (G183 : Int) : Int × fx_U :=
  (if p183_7 < p154_6 then fx_lr (w183 a0 26) fun b191 => fx_lt (G183 + p183_7) fun v200 => fx_ls (fx_pt w183 b191 v200.toNat p88_s0) fun u203 => fx_lt (p183_7 + 1) fun v204 => rec183 v204 u203 F183 G183 else fx_lt (G183 + p154_6) fun v217 => fx_ls (fx_pt w183 a0 14 v217) fun u218 => (1, u218))
def kL_X12_readsValue_183 (p154_6 : Int) (a0 : Nat) (p88_s0 : Int) : Nat → Int → fx_U → Int → Int → Int × fx_U
  | 0, _, _, _, _ => (0, fun _ _ => 0)
  | n + 1, p183_7, w183, F183, G183 => kB_X12_readsValue_183 (kL_X12_readsValue_183 p154_6 a0 p88_s0 n) p154_6 a0 p88_s0 p183_7 w183 F183 G183
def kJ_X12_readsValue_154 (a0 : Nat) (q_1v : Int) (p88_s0 : Int) (p154_6 : Int) (w154 : fx_U) (F154 : Int) : Int × fx_U :=
  fx_lt (w154 a0 14) fun v155 => fx_lt (v155 + p154_6) fun v160 => fx_lr (w154 a0 0) fun b162 => fx_lt (w154 b162 (Int.toNat 512)) fun v168 => (if v168 < v160 then fx_lc (f_X12_wrongAt w154 a0 6 q_1v) fun v176 u176 => (v176, u176) else kL_X12_readsValue_183 p154_6 a0 p88_s0 (Int.toNat (64 - 0) + 1) 0 w154 F154 v155)
def kJ_X12_readsValue_88 (u45 : fx_U) (a0 : Nat) (q_1v : Int) (p88_s0 : Int) (F88 : Int) : Int × fx_U :=
  fx_lt (f_X12_here u45 a0) fun v94 => (if v94 = 42 then fx_lt (F88 + 1) fun v108 => fx_ls (fx_pt u45 a0 5 v108) fun u109 => fx_lc (f_X12_readsTwo u109 a0) fun v119 u119 => fx_lt (u119 a0 5) fun y119 => (if v119 = 0 then (0, u119) else fx_lt (u119 a0 8) fun n119 => fx_lt (f_X12_in u119 n119 2 64) fun v134 => (if v134 = 0 then fx_lc (f_X12_wrongAt u119 a0 3 v108) fun v144 u144 => (v144, u144) else kJ_X12_readsValue_154 a0 q_1v p88_s0 n119 u119 y119)) else kJ_X12_readsValue_154 a0 q_1v p88_s0 1 u45 F88)
def kJ_X12_readsValue_72 (p23_s0 : Int) (u45 : fx_U) (a0 : Nat) (q_1v : Int) (n45 : Int) (F72 : Int) : Int × fx_U :=
  (if p23_s0 = 0 then kJ_X12_readsValue_88 u45 a0 q_1v n45 F72 else fx_lt (-n45) fun v80 => kJ_X12_readsValue_88 u45 a0 q_1v v80 F72)
def kJ_X12_readsValue_38 (a0 : Nat) (p23_s0 : Int) (q_1v : Int) (w38 : fx_U) (F38 : Int) : Int × fx_U :=
  fx_lc (f_X12_readsTwo w38 a0) fun v45 u45 => fx_lt (u45 a0 5) fun y45 => (if v45 = 0 then (0, u45) else fx_lt (u45 a0 8) fun n45 => (if p23_s0 = 0 then kJ_X12_readsValue_72 p23_s0 u45 a0 q_1v n45 y45 else (if n45 = 0 then fx_lc (f_X12_wrongAt u45 a0 1 F38) fun v68 u68 => (v68, u68) else kJ_X12_readsValue_72 p23_s0 u45 a0 q_1v n45 y45)))
def kJ_X12_readsValue_23 (a0 : Nat) (q_1v : Int) (u : fx_U) (p23_s0 : Int) : Int × fx_U :=
  (if p23_s0 = 0 then kJ_X12_readsValue_38 a0 p23_s0 q_1v u q_1v else fx_lt (q_1v + 1) fun v34 => fx_ls (fx_pt u a0 5 v34) fun u35 => kJ_X12_readsValue_38 a0 p23_s0 q_1v u35 v34)
def kJ_X12_readsValue_22 (a0 : Nat) (q_1v : Int) (u : fx_U) : Int × fx_U :=
  kJ_X12_readsValue_23 a0 q_1v u 0
def f_X12_readsValue (u : fx_U) (a0 : Nat) (x1 : Int) : Int × fx_U :=
  fx_lt (u a0 5) fun q_1v => (if x1 = 0 then kJ_X12_readsValue_22 a0 q_1v u else fx_lt (f_X12_here u a0) fun v10 => (if v10 = 45 then kJ_X12_readsValue_23 a0 q_1v u 1 else kJ_X12_readsValue_22 a0 q_1v u))
def kB_X12_row_142 (rec142 : (Int → Int → fx_U → Int × fx_U)) (q_4v : Int) (x1 : Int) (a0 : Nat) (q_3b : Nat) (p142_4 : Int) (p142_5 : Int) (w142 : fx_U) : Int × fx_U :=
  (if p142_5 < q_4v then fx_lt (64 * x1) fun v162 => fx_lt (v162 + p142_5) fun v165 => fx_lr (w142 a0 26) fun b167 => fx_lt (w142 b167 p142_5.toNat) fun v172 => fx_ls (fx_pt w142 q_3b v165.toNat v172) fun u173 => fx_lt (f_X12_size u173 v172) fun v183 => fx_lt (fx_b_add p142_4 v183) fun v186 => fx_lt (p142_5 + 1) fun v189 => rec142 v186 v189 u173 else (p142_4, w142))
def kL_X12_row_142 (q_4v : Int) (x1 : Int) (a0 : Nat) (q_3b : Nat) : Nat → Int → Int → fx_U → Int × fx_U
  | 0, _, _, _ => (0, fun _ _ => 0)
  | n + 1, p142_4, p142_5, w142 => kB_X12_row_142 (kL_X12_row_142 q_4v x1 a0 q_3b n) q_4v x1 a0 q_3b p142_4 p142_5 w142
def kJ_X12_row_122 (w58 : fx_U) (a0 : Nat) (p58_3 : Int) (q_4v : Int) (x1 : Int) (q_3b : Nat) : Int × fx_U :=
  fx_ls (fx_pt w58 a0 4 0) fun u124 => (if p58_3 = 0 then fx_lt (u124 a0 7) fun v132 => (v132, u124) else kL_X12_row_142 q_4v x1 a0 q_3b (Int.toNat (64 - 0) + 1) 0 0 u124)
def kJ_X12_row_118 (rec58 : (Int → fx_U → Int → Int × fx_U)) (p118_s0 : Int) (w118 : fx_U) (F118 : Int) : Int × fx_U :=
  rec58 p118_s0 w118 F118
def kJ_X12_row_117 (rec58 : (Int → fx_U → Int → Int × fx_U)) (w117 : fx_U) (F117 : Int) : Int × fx_U :=
  kJ_X12_row_118 rec58 0 w117 F117
def kJ_X12_row_107 (u91 : fx_U) (a0 : Nat) (rec58 : (Int → fx_U → Int → Int × fx_U)) (p107_s0 : Int) : Int × fx_U :=
  fx_lc (f_X12_readsValue u91 a0 p107_s0) fun v107 u107 => fx_lt (u107 a0 5) fun y107 => (if v107 = 0 then kJ_X12_row_117 rec58 u107 y107 else kJ_X12_row_118 rec58 1 u107 y107)
def kJ_X12_row_88 (w58 : fx_U) (a0 : Nat) (rec58 : (Int → fx_U → Int → Int × fx_U)) (x1 : Int) : Int × fx_U :=
  fx_lc (f_X12_takes w58 a0 44) fun v91 u91 => fx_lt (u91 a0 5) fun y91 => (if v91 = 0 then kJ_X12_row_117 rec58 u91 y91 else (if x1 = 0 then kJ_X12_row_107 u91 a0 rec58 1 else kJ_X12_row_107 u91 a0 rec58 0))
def kB_X12_row_58 (rec58 : (Int → fx_U → Int → Int × fx_U)) (a0 : Nat) (q_4v : Int) (x1 : Int) (q_3b : Nat) (p58_3 : Int) (w58 : fx_U) (F58 : Int) : Int × fx_U :=
  (if p58_3 = 0 then kJ_X12_row_122 w58 a0 p58_3 q_4v x1 q_3b else fx_lt (w58 a0 6) fun v67 => (if F58 < v67 then kJ_X12_row_88 w58 a0 rec58 x1 else fx_lt (w58 a0 14) fun v74 => (if v74 < q_4v then kJ_X12_row_88 w58 a0 rec58 x1 else kJ_X12_row_122 w58 a0 p58_3 q_4v x1 q_3b)))
def kL_X12_row_58 (a0 : Nat) (q_4v : Int) (x1 : Int) (q_3b : Nat) : Nat → Int → fx_U → Int → Int × fx_U
  | 0, _, _, _ => (0, fun _ _ => 0)
  | n + 1, p58_3, w58, F58 => kB_X12_row_58 (kL_X12_row_58 a0 q_4v x1 q_3b n) a0 q_4v x1 q_3b p58_3 w58 F58
def kJ_X12_row_54 (u41 : fx_U) (a0 : Nat) (q_4v : Int) (x1 : Int) (q_3b : Nat) (p54_s0 : Int) : Int × fx_U :=
  fx_lc (f_X12_readsValue u41 a0 p54_s0) fun v54 u54 => fx_lt (u54 a0 5) fun y54 => kL_X12_row_58 a0 q_4v x1 q_3b (Int.toNat (2 * (260 - y54) + v54) + 1) v54 u54 y54
def f_X12_row (u : fx_U) (a0 : Nat) (x1 : Int) (x2 : Int) : Int × fx_U :=
  fx_lt (u a0 5) fun q_1v => fx_lt (u a0 4) fun q_2v => fx_lr (u a0 0) fun q_3b => fx_lt (u q_3b (Int.toNat 512)) fun q_4v => fx_lt (f_X12_in u x1 0 2) fun v3 => (if v3 = 0 then ((-1), u) else fx_lt (f_X12_in u x2 1 120) fun v13 => (if v13 = 0 then ((-1), u) else (if q_2v < x2 then ((-1), u) else fx_ls (fx_pt u a0 5 0) fun u31 => fx_ls (fx_pt u31 a0 6 x2) fun u36 => fx_ls (fx_pt u36 a0 14 0) fun u41 => (if x1 = 0 then kJ_X12_row_54 u41 a0 q_4v x1 q_3b 1 else kJ_X12_row_54 u41 a0 q_4v x1 q_3b 0))))
def kJ_X12_laysWear_224 (p164_5 : Int) (rec164 : (Int → fx_U)) : fx_U :=
  fx_lt (p164_5 + 1) fun v227 => rec164 v227
def kB_X12_laysWear_164 (rec164 : (Int → fx_U)) (x2 : Int) (q_2v : Int) (p147_4 : Int) (w147 : fx_U) (a0 : Nat) (p147_3 : Int) (x1 : Int) (q_4b : Nat) (rec147 : (Int → Int → fx_U → fx_U)) (p164_5 : Int) : fx_U :=
  fx_lt (p164_5 + x2) fun v167 => (if q_2v < v167 then kJ_X12_laysWear_224 p164_5 rec164 else fx_lt (p147_4 - 1) fun v183 => fx_lt (f_X12_wearFrom w147 a0 v183 v167) fun v188 => (if v188 < 0 then kJ_X12_laysWear_224 p164_5 rec164 else fx_lt (f_X12_wearIn w147 a0 p164_5 x2) fun v198 => fx_lt (f_X12_wearFrom w147 a0 v183 v167) fun v210 => fx_lt (fx_b_add v198 v210) fun v213 => fx_lt (f_X12_wearFrom w147 a0 p147_4 p147_3) fun v218 => (if v213 = v218 then fx_lt (x1 - p147_4) fun v240 => fx_ls (fx_pt w147 q_4b v240.toNat p164_5) fun u243 => fx_lt (p147_4 + (-1)) fun v249 => rec147 v167 v249 u243 else kJ_X12_laysWear_224 p164_5 rec164)))
def kL_X12_laysWear_164 (x2 : Int) (q_2v : Int) (p147_4 : Int) (w147 : fx_U) (a0 : Nat) (p147_3 : Int) (x1 : Int) (q_4b : Nat) (rec147 : (Int → Int → fx_U → fx_U)) : Nat → Int → fx_U
  | 0, _ => (fun _ _ => 0)
  | n + 1, p164_5 => kB_X12_laysWear_164 (kL_X12_laysWear_164 x2 q_2v p147_4 w147 a0 p147_3 x1 q_4b rec147 n) x2 q_2v p147_4 w147 a0 p147_3 x1 q_4b rec147 p164_5
def kB_X12_laysWear_147 (rec147 : (Int → Int → fx_U → fx_U)) (a0 : Nat) (x1 : Int) (x2 : Int) (q_2v : Int) (q_4b : Nat) (p147_3 : Int) (p147_4 : Int) (w147 : fx_U) : fx_U :=
  (if 0 < p147_4 then fx_lt (f_X12_wearFrom w147 a0 x1 0) fun v155 => (if v155 < 0 then w147 else kL_X12_laysWear_164 x2 q_2v p147_4 w147 a0 p147_3 x1 q_4b rec147 (65) p147_3) else w147)
def kL_X12_laysWear_147 (a0 : Nat) (x1 : Int) (x2 : Int) (q_2v : Int) (q_4b : Nat) : Nat → Int → Int → fx_U → fx_U
  | 0, _, _, _ => (fun _ _ => 0)
  | n + 1, p147_3, p147_4, w147 => kB_X12_laysWear_147 (kL_X12_laysWear_147 a0 x1 x2 q_2v q_4b n) a0 x1 x2 q_2v q_4b p147_3 p147_4 w147
def kJ_X12_laysWear_116 (p23_3 : Int) (p32_4 : Int) (w32 : fx_U) (q_3b : Nat) (rec32 : (Int → fx_U → fx_U)) (p116_5 : Int) : fx_U :=
  fx_lt (65 * p23_3) fun v123 => fx_lt (v123 + p32_4) fun v126 => fx_ls (fx_pt w32 q_3b v126.toNat p116_5) fun u129 => fx_lt (p32_4 + (-1)) fun v130 => rec32 v130 u129
def kJ_X12_laysWear_59 (p32_4 : Int) (x2 : Int) (q_2v : Int) (p23_3 : Int) (w32 : fx_U) (q_3b : Nat) (rec32 : (Int → fx_U → fx_U)) (a0 : Nat) (p59_s0 : Int) : fx_U :=
  fx_lt (p32_4 + x2) fun v64 => (if q_2v < v64 then kJ_X12_laysWear_116 p23_3 p32_4 w32 q_3b rec32 p59_s0 else fx_lt (p23_3 - 1) fun v79 => fx_lt (f_X12_wearFrom w32 a0 v79 v64) fun v84 => (if v84 < 0 then kJ_X12_laysWear_116 p23_3 p32_4 w32 q_3b rec32 p59_s0 else fx_lt (f_X12_wearIn w32 a0 p32_4 x2) fun v96 => fx_lt (f_X12_wearFrom w32 a0 v79 v64) fun v107 => fx_lt (fx_b_add v96 v107) fun v110 => fx_lt (f_X12_max w32 p59_s0 v110) fun v111 => kJ_X12_laysWear_116 p23_3 p32_4 w32 q_3b rec32 v111))
def kB_X12_laysWear_32 (rec32 : (Int → fx_U → fx_U)) (p23_3 : Int) (rec23 : (Int → fx_U → fx_U)) (a0 : Nat) (x2 : Int) (q_2v : Int) (q_3b : Nat) (p32_4 : Int) (w32 : fx_U) : fx_U :=
  (if p32_4 < 0 then fx_lt (p23_3 + 1) fun v136 => rec23 v136 w32 else (if p32_4 < 64 then fx_lt (p32_4 + 1) fun v49 => fx_lt (f_X12_wearFrom w32 a0 p23_3 v49) fun v50 => kJ_X12_laysWear_59 p32_4 x2 q_2v p23_3 w32 q_3b rec32 a0 v50 else kJ_X12_laysWear_59 p32_4 x2 q_2v p23_3 w32 q_3b rec32 a0 (-1000000000)))
def kL_X12_laysWear_32 (p23_3 : Int) (rec23 : (Int → fx_U → fx_U)) (a0 : Nat) (x2 : Int) (q_2v : Int) (q_3b : Nat) : Nat → Int → fx_U → fx_U
  | 0, _, _ => (fun _ _ => 0)
  | n + 1, p32_4, w32 => kB_X12_laysWear_32 (kL_X12_laysWear_32 p23_3 rec23 a0 x2 q_2v q_3b n) p23_3 rec23 a0 x2 q_2v q_3b p32_4 w32
def kB_X12_laysWear_23 (rec23 : (Int → fx_U → fx_U)) (x1 : Int) (a0 : Nat) (x2 : Int) (q_2v : Int) (q_4b : Nat) (q_3b : Nat) (p23_3 : Int) (w23 : fx_U) : fx_U :=
  (if x1 < p23_3 then kL_X12_laysWear_147 a0 x1 x2 q_2v q_4b (Int.toNat (x1 - 0) + 1) 0 x1 w23 else kL_X12_laysWear_32 p23_3 rec23 a0 x2 q_2v q_3b (Int.toNat (64 - (-1)) + 1) 64 w23)
def kL_X12_laysWear_23 (x1 : Int) (a0 : Nat) (x2 : Int) (q_2v : Int) (q_4b : Nat) (q_3b : Nat) : Nat → Int → fx_U → fx_U
  | 0, _, _ => (fun _ _ => 0)
  | n + 1, p23_3, w23 => kB_X12_laysWear_23 (kL_X12_laysWear_23 x1 a0 x2 q_2v q_4b q_3b n) x1 a0 x2 q_2v q_4b q_3b p23_3 w23
def kB_X12_laysWear_2 (rec2 : (Int → fx_U → fx_U)) (x1 : Int) (a0 : Nat) (x2 : Int) (q_2v : Int) (q_4b : Nat) (q_3b : Nat) (p2_3 : Int) (w2 : fx_U) : fx_U :=
  (if 64 < p2_3 then kL_X12_laysWear_23 x1 a0 x2 q_2v q_4b q_3b (Int.toNat (5 - 1) + 1) 1 w2 else fx_ls (fx_pt w2 q_3b p2_3.toNat 0) fun u14 => fx_lt (p2_3 + 1) fun v15 => rec2 v15 u14)
def kL_X12_laysWear_2 (x1 : Int) (a0 : Nat) (x2 : Int) (q_2v : Int) (q_4b : Nat) (q_3b : Nat) : Nat → Int → fx_U → fx_U
  | 0, _, _ => (fun _ _ => 0)
  | n + 1, p2_3, w2 => kB_X12_laysWear_2 (kL_X12_laysWear_2 x1 a0 x2 q_2v q_4b q_3b n) x1 a0 x2 q_2v q_4b q_3b p2_3 w2
def f_X12_laysWear (u : fx_U) (a0 : Nat) (x1 : Int) (x2 : Int) : fx_U :=
  fx_lr (u a0 0) fun q_1b => fx_lt (u q_1b (Int.toNat 512)) fun q_2v => fx_lr (u a0 43) fun q_3b => fx_lr (u a0 44) fun q_4b => kL_X12_laysWear_2 x1 a0 x2 q_2v q_4b q_3b (Int.toNat (65 - 0) + 1) 0 u
def kJ_X12_renewed_38 (x1 : Int) (x2 : Int) (u : fx_U) (a0 : Nat) (x3 : Int) : Int × fx_U :=
  fx_lt (x1 * x2) fun v40 => fx_lr (u a0 0) fun b42 => fx_lt (u b42 (Int.toNat 512)) fun v48 => (if v48 < v40 then ((-2), u) else fx_ls (f_X12_laysWear u a0 x1 x2) fun u58 => (if x3 = 10 then fx_lt (f_X12_wearFrom u58 a0 x1 0) fun v70 => fx_lr (u58 a0 43) fun q_9b => (v70, u58) else fx_lr (u58 a0 44) fun b77 => fx_lt (u58 b77 x3.toNat) fun v81 => (v81, u58)))
def f_X12_renewed (u : fx_U) (a0 : Nat) (x1 : Int) (x2 : Int) (x3 : Int) : Int × fx_U :=
  fx_lt (f_X12_in u x1 1 4) fun v3 => (if v3 = 0 then ((-1), u) else fx_lt (f_X12_in u x2 1 16) fun v13 => (if v13 = 0 then ((-1), u) else (if x3 = 10 then kJ_X12_renewed_38 x1 x2 u a0 x3 else fx_lt (x1 - 1) fun v29 => fx_lt (f_X12_in u x3 0 v29) fun v30 => (if v30 = 0 then ((-1), u) else kJ_X12_renewed_38 x1 x2 u a0 x3))))
