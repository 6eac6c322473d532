/-! what methods compute: laid by wip/p2/build.py -/
def f_X11_isIn (u : fx_U) (x0 : Int) (x1 : Int) (x2 : Int) : Int :=
  (if x0 < x1 then 0 else (if x2 < x0 then 0 else 1))
def f_J9_max_7cf53 (u : fx_U) (x0 : Int) (x1 : Int) : Int :=
  (if x0 < x1 then x1 else x0)
def f_J9_min_7cf53 (u : fx_U) (x0 : Int) (x1 : Int) : Int :=
  (if x1 < x0 then x1 else x0)
def f_J9_abs_0f7a4 (u : fx_U) (x0 : Int) : Int :=
  (if x0 < 0 then fx_lt (fx_b_neg x0) fun v5 => v5 else x0)
def f_X11_heldIn (u : fx_U) (x0 : Int) (x1 : Int) (x2 : Int) : Int :=
  fx_lt (f_J9_min_7cf53 u x2 x0) fun v3 => fx_lt (f_J9_max_7cf53 u x1 v3) fun v6 => v6
def f_X7_isDot (u : fx_U) (a0 : Nat) (x1 : Int) : Int :=
  fx_lt (u a0 0) fun q_1v => (if x1 < 0 then 0 else (if x1 < q_1v then 1 else 0))
def f_X7_rowOf (u : fx_U) (a0 : Nat) (x1 : Int) : Nat :=
  (if x1 = 0 then fx_lr (u a0 1) fun b5 => b5 else (if x1 = 1 then fx_lr (u a0 2) fun b15 => b15 else fx_lr (u a0 3) fun b22 => b22))
def f_X8_peek (u : fx_U) (a0 : Nat) : Int :=
  fx_lr (u a0 1) fun at1 => fx_lt (u a0 3) fun v1 => (if v1 < 0 then (-1) else fx_lt (u a0 2) fun v12 => (if v1 < v12 then fx_lt (u at1 v1.toNat) fun v26 => v26 else (-1)))
def f_X8_fail (u : fx_U) (a0 : Nat) (x1 : Int) (x2 : Int) : Int × fx_U :=
  fx_lt (fx_b_mul (-1000) x1) fun v5 => fx_lt (fx_b_sub v5 x2) fun v7 => fx_ls (fx_pt u a0 5 v7) fun u8 => (0, u8)
def kB_X8_sumOfAmounts_4 (rec4 : (Int → Int → Int)) (u : fx_U) (a0 : Nat) (p4_1 : Int) (p4_2 : Int) : Int :=
  fx_lt (u a0 4) fun v6 => (if p4_2 < v6 then fx_lr (u a0 0) fun b14 => fx_lt (u b14 p4_2.toNat) fun v18 => fx_lt (f_J9_abs_0f7a4 u v18) fun v19 => fx_lt (fx_b_add p4_1 v19) fun v22 => fx_lt (p4_2 + 1) fun v24 => rec4 v22 v24 else p4_1)
def kL_X8_sumOfAmounts_4 (u : fx_U) (a0 : Nat) : Nat → Int → Int → Int
  | 0, _, _ => 0
  | n + 1, p4_1, p4_2 => kB_X8_sumOfAmounts_4 (kL_X8_sumOfAmounts_4 u a0 n) u a0 p4_1 p4_2
def f_X8_sumOfAmounts (u : fx_U) (a0 : Nat) : Int :=
  kL_X8_sumOfAmounts_4 u a0 (Int.toNat (64 - 0) + 1) 0 0
def kB_X8_readNumber_4 (rec4 : (Int → Int → fx_U → Int × fx_U)) (a0 : Nat) (p4_1 : Int) (p4_2 : Int) (w4 : fx_U) : Int × fx_U :=
  (if p4_2 < 2 then fx_lt (f_X8_peek w4 a0) fun v10 => fx_lt (f_X11_isIn w4 v10 48 57) fun v17 => (if v17 = 0 then (p4_1, w4) else fx_lt (f_J9_max_7cf53 w4 0 p4_1) fun v25 => fx_lt (fx_b_mul v25 10) fun v30 => fx_lt (f_X8_peek w4 a0) fun v32 => fx_lt (fx_b_add v30 v32) fun v35 => fx_lt (fx_b_sub v35 48) fun v38 => fx_lt (w4 a0 3) fun v42 => fx_lt (fx_b_add v42 1) fun v46 => fx_ls (fx_pt w4 a0 3 v46) fun u47 => fx_lt (p4_2 + 1) fun v50 => rec4 v38 v50 u47) else (p4_1, w4))
def kL_X8_readNumber_4 (a0 : Nat) : Nat → Int → Int → fx_U → Int × fx_U
  | 0, _, _, _ => (0, fun _ _ => 0)
  | n + 1, p4_1, p4_2, w4 => kB_X8_readNumber_4 (kL_X8_readNumber_4 a0 n) a0 p4_1 p4_2 w4
def f_X8_readNumber (u : fx_U) (a0 : Nat) : Int × fx_U :=
  fx_lr (u a0 1) fun at1 => kL_X8_readNumber_4 a0 (Int.toNat (2 - 0) + 1) (-1) 0 u
def kJ_X8_readValue_180 (w157 : fx_U) (a0 : Nat) (v1 : Int) : Int × fx_U :=
  fx_lc (f_X8_fail w157 a0 6 v1) fun v184 u184 => (v184, u184)
def kJ_X8_readValue_219 (w191 : fx_U) (b199 : Nat) (F191 : Int) (a0 : Nat) (p191_8 : Int) (rec191 : (Int → fx_U → Int → Int × fx_U)) (p219_s0 : Int) : Int × fx_U :=
  fx_ls (fx_pt w191 b199 F191.toNat p219_s0) fun u219 => fx_lt (F191 + 1) fun v226 => fx_ls (fx_pt u219 a0 4 v226) fun u227 => fx_lt (p191_8 + 1) fun v230 => rec191 v230 u227 v226
def kB_X8_readValue_191 (rec191 : (Int → fx_U → Int → Int × fx_U)) (p157_7 : Int) (a0 : Nat) (p23_s0 : Int) (v51 : Int) (p191_8 : Int) (w191 : fx_U) (F191 : Int) : Int × fx_U :=
  (if p191_8 < p157_7 then fx_lr (w191 a0 0) fun b199 => (if p23_s0 = 0 then kJ_X8_readValue_219 w191 b199 F191 a0 p191_8 rec191 v51 else fx_lt (-v51) fun v213 => kJ_X8_readValue_219 w191 b199 F191 a0 p191_8 rec191 v213) else (1, w191))
def kL_X8_readValue_191 (p157_7 : Int) (a0 : Nat) (p23_s0 : Int) (v51 : Int) : Nat → Int → fx_U → Int → Int × fx_U
  | 0, _, _, _ => (0, fun _ _ => 0)
  | n + 1, p191_8, w191, F191 => kB_X8_readValue_191 (kL_X8_readValue_191 p157_7 a0 p23_s0 v51 n) p157_7 a0 p23_s0 v51 p191_8 w191 F191
def kJ_X8_readValue_157 (a0 : Nat) (x1 : Int) (v1 : Int) (p23_s0 : Int) (v51 : Int) (p157_7 : Int) (w157 : fx_U) : Int × fx_U :=
  fx_lt (w157 a0 4) fun v158 => fx_lt (v158 + p157_7) fun v163 => (if x1 < v163 then kJ_X8_readValue_180 w157 a0 v1 else (if 64 < v163 then kJ_X8_readValue_180 w157 a0 v1 else kL_X8_readValue_191 p157_7 a0 p23_s0 v51 (Int.toNat (64 - 0) + 1) 0 w157 v158))
def kJ_X8_readValue_89 (u51 : fx_U) (a0 : Nat) (x1 : Int) (v1 : Int) (p23_s0 : Int) (v51 : Int) : Int × fx_U :=
  fx_lt (f_X8_peek u51 a0) fun v93 => (if v93 = 42 then fx_lt (u51 a0 3) fun v103 => fx_lt (fx_b_add v103 1) fun v107 => fx_ls (fx_pt u51 a0 3 v107) fun u108 => fx_lc (f_X8_readNumber u108 a0) fun v118 u118 => (if v118 < 0 then fx_lt (u118 a0 3) fun v131 => fx_lc (f_X8_fail u118 a0 1 v131) fun v134 u134 => (v134, u134) else fx_lt (f_X11_isIn u118 v118 2 64) fun v143 => (if v143 = 0 then fx_lc (f_X8_fail u118 a0 3 v107) fun v153 u153 => (v153, u153) else kJ_X8_readValue_157 a0 x1 v1 p23_s0 v51 v118 u118)) else kJ_X8_readValue_157 a0 x1 v1 p23_s0 v51 1 u51)
def kJ_X8_readValue_40 (v1 : Int) (u : fx_U) (a0 : Nat) (p23_s0 : Int) (x1 : Int) (p40_s0 : Int) : Int × fx_U :=
  fx_lt (fx_b_add v1 p40_s0) fun v40 => fx_ls (fx_pt u a0 3 v40) fun u41 => fx_lc (f_X8_readNumber u41 a0) fun v51 u51 => (if v51 < 0 then fx_lt (u51 a0 3) fun v64 => fx_lc (f_X8_fail u51 a0 1 v64) fun v67 u67 => (v67, u67) else (if p23_s0 = 0 then kJ_X8_readValue_89 u51 a0 x1 v1 p23_s0 v51 else (if v51 = 0 then fx_lc (f_X8_fail u51 a0 1 v40) fun v85 u85 => (v85, u85) else kJ_X8_readValue_89 u51 a0 x1 v1 p23_s0 v51)))
def kJ_X8_readValue_23 (v1 : Int) (u : fx_U) (a0 : Nat) (x1 : Int) (p23_s0 : Int) : Int × fx_U :=
  (if p23_s0 = 0 then kJ_X8_readValue_40 v1 u a0 p23_s0 x1 0 else kJ_X8_readValue_40 v1 u a0 p23_s0 x1 1)
def kJ_X8_readValue_22 (v1 : Int) (u : fx_U) (a0 : Nat) (x1 : Int) : Int × fx_U :=
  kJ_X8_readValue_23 v1 u a0 x1 0
def f_X8_readValue (u : fx_U) (a0 : Nat) (x1 : Int) (x2 : Int) : Int × fx_U :=
  fx_lr (u a0 1) fun at1 => fx_lt (u a0 3) fun v1 => (if x2 = 0 then kJ_X8_readValue_22 v1 u a0 x1 else fx_lt (f_X8_peek u a0) fun v10 => (if v10 = 45 then kJ_X8_readValue_23 v1 u a0 x1 1 else kJ_X8_readValue_22 v1 u a0 x1))
def kB_X8_writeTo_2 (rec2 : (Int → fx_U → fx_U)) (x2 : Int) (a0 : Nat) (a1 : Nat) (p2_3 : Int) (w2 : fx_U) : fx_U :=
  (if p2_3 < x2 then (if p2_3 < 64 then (if p2_3 < 64 then fx_lr (w2 a0 0) fun b22 => fx_lt (w2 b22 p2_3.toNat) fun v26 => fx_ls (fx_pt w2 a1 p2_3.toNat v26) fun u27 => fx_lt (p2_3 + 1) fun v28 => rec2 v28 u27 else (fun _ _ => 0)) else w2) else w2)
def kL_X8_writeTo_2 (x2 : Int) (a0 : Nat) (a1 : Nat) : Nat → Int → fx_U → fx_U
  | 0, _, _ => (fun _ _ => 0)
  | n + 1, p2_3, w2 => kB_X8_writeTo_2 (kL_X8_writeTo_2 x2 a0 a1 n) x2 a0 a1 p2_3 w2
def f_X8_writeTo (u : fx_U) (a0 : Nat) (a1 : Nat) (x2 : Int) : fx_U :=
  kL_X8_writeTo_2 x2 a0 a1 (Int.toNat (64 - 0) + 1) 0 u
def kJ_X8_read_126 (a0 : Nat) (w126 : fx_U) : Int × fx_U :=
  fx_lt (w126 a0 5) fun v127 => (if v127 = 0 then fx_lt (f_X8_sumOfAmounts w126 a0) fun v141 => (v141, w126) else (v127, w126))
def kJ_X8_read_101 (a0 : Nat) (x3 : Int) (w101 : fx_U) : Int × fx_U :=
  fx_lt (w101 a0 5) fun v102 => (if v102 = 0 then fx_lt (w101 a0 4) fun v109 => (if v109 < x3 then fx_lt (w101 a0 3) fun v119 => fx_lc (f_X8_fail w101 a0 1 v119) fun v122 u122 => kJ_X8_read_126 a0 u122 else kJ_X8_read_126 a0 w101) else kJ_X8_read_126 a0 w101)
def kB_X8_read_33 (rec33 : (Int → fx_U → Int × fx_U)) (x3 : Int) (a0 : Nat) (x4 : Int) (p33_5 : Int) (w33 : fx_U) : Int × fx_U :=
  (if x3 < p33_5 then kJ_X8_read_101 a0 x3 w33 else fx_lc (f_X8_readValue w33 a0 x3 x4) fun v43 u43 => (if v43 = 0 then kJ_X8_read_101 a0 x3 u43 else fx_lt (u43 a0 3) fun v50 => fx_lt (u43 a0 2) fun v54 => (if v50 < v54 then fx_lt (f_X8_peek u43 a0) fun v64 => (if v64 = 44 then fx_lt (v50 + 1) fun v91 => fx_ls (fx_pt u43 a0 3 v91) fun u92 => fx_lt (p33_5 + 1) fun v95 => rec33 v95 u92 else fx_lc (f_X8_fail u43 a0 1 v50) fun v78 u78 => kJ_X8_read_101 a0 x3 u78) else kJ_X8_read_101 a0 x3 u43)))
def kL_X8_read_33 (x3 : Int) (a0 : Nat) (x4 : Int) : Nat → Int → fx_U → Int × fx_U
  | 0, _, _ => (0, fun _ _ => 0)
  | n + 1, p33_5, w33 => kB_X8_read_33 (kL_X8_read_33 x3 a0 x4 n) x3 a0 x4 p33_5 w33
def f_X8_read (u : fx_U) (a0 : Nat) (a1 : Nat) (x2 : Int) (x3 : Int) (x4 : Int) : Int × fx_U :=
  fx_ls (fx_pt u a0 1 (a1 : Nat)) fun u2 => fx_lt (f_J9_min_7cf53 u2 x2 260) fun v9 => fx_ls (fx_pt u2 a0 2 v9) fun u12 => fx_ls (fx_pt u12 a0 3 0) fun u17 => fx_ls (fx_pt u17 a0 4 0) fun u22 => fx_ls (fx_pt u22 a0 5 0) fun u27 => kL_X8_read_33 x3 a0 x4 (Int.toNat (65 - 0) + 1) 0 u27
def f_X1_nearest (u : fx_U) (x0 : Int) (x1 : Int) (x2 : Int) : Int :=
  fx_lt (x1 - x2) fun v3 => fx_lt (x1 + x2) fun v6 => fx_lt (f_X11_heldIn u x0 v3 v6) fun v7 => v7
def kJ_X1_lowestBest_27 (p4_2 : Int) (rec4 : (Int → Int → Int)) (p27_1 : Int) : Int :=
  fx_lt (p4_2 + 1) fun v27 => rec4 p27_1 v27
def kB_X1_lowestBest_4 (rec4 : (Int → Int → Int)) (u : fx_U) (a0 : Nat) (p4_1 : Int) (p4_2 : Int) : Int :=
  (if p4_2 < 61 then fx_lr (u a0 0) fun b11 => fx_lt (u b11 p4_2.toNat) fun v15 => fx_lt (u b11 p4_1.toNat) fun v21 => (if v15 < v21 then kJ_X1_lowestBest_27 p4_2 rec4 p4_2 else kJ_X1_lowestBest_27 p4_2 rec4 p4_1) else p4_1)
def kL_X1_lowestBest_4 (u : fx_U) (a0 : Nat) : Nat → Int → Int → Int
  | 0, _, _ => 0
  | n + 1, p4_1, p4_2 => kB_X1_lowestBest_4 (kL_X1_lowestBest_4 u a0 n) u a0 p4_1 p4_2
def f_X1_lowestBest (u : fx_U) (a0 : Nat) : Int :=
  kL_X1_lowestBest_4 u a0 (Int.toNat (61 - 1) + 1) 0 1
def kJ_X1_makeSmooth_161 (w132 : fx_U) (a0 : Nat) (p132_5 : Int) (rec132 : (Int → Int → fx_U → Int × fx_U)) (p161_s0 : Int) : Int × fx_U :=
  fx_lr (w132 a0 4) fun b164 => fx_lt (p161_s0 - 30) fun v173 => fx_ls (fx_pt w132 b164 p132_5.toNat v173) fun u174 => fx_lt (p132_5 + 1) fun v175 => rec132 p161_s0 v175 u174
def kB_X1_makeSmooth_132 (rec132 : (Int → Int → fx_U → Int × fx_U)) (v5 : Int) (a0 : Nat) (b122 : Nat) (x2 : Int) (p132_4 : Int) (p132_5 : Int) (w132 : fx_U) : Int × fx_U :=
  (if v5 < p132_5 then fx_lr (w132 a0 0) fun b182 => fx_lt (w132 b122 (Int.toNat 0)) fun v190 => fx_lt (w132 b182 v190.toNat) fun v191 => (v191, w132) else (if p132_5 = 0 then kJ_X1_makeSmooth_161 w132 a0 p132_5 rec132 p132_4 else fx_lt (w132 b122 p132_5.toNat) fun v154 => fx_lt (f_X1_nearest w132 v154 p132_4 x2) fun v158 => kJ_X1_makeSmooth_161 w132 a0 p132_5 rec132 v158))
def kL_X1_makeSmooth_132 (v5 : Int) (a0 : Nat) (b122 : Nat) (x2 : Int) : Nat → Int → Int → fx_U → Int × fx_U
  | 0, _, _, _ => (0, fun _ _ => 0)
  | n + 1, p132_4, p132_5, w132 => kB_X1_makeSmooth_132 (kL_X1_makeSmooth_132 v5 a0 b122 x2 n) v5 a0 b122 x2 p132_4 p132_5 w132
def kJ_X1_makeSmooth_70 (p33_5 : Int) (w33 : fx_U) (a1 : Nat) (p10_4 : Int) (b16 : Nat) (rec33 : (Int → fx_U → Int × fx_U)) (p70_s0 : Int) : Int × fx_U :=
  fx_lt (p33_5 - 30) fun v82 => fx_lr (w33 a1 1) fun b84 => fx_lt (w33 b84 p10_4.toNat) fun v89 => fx_lt (fx_b_sub v82 v89) fun v90 => fx_lt (f_J9_abs_0f7a4 w33 v90) fun v91 => fx_lt (fx_b_add v91 p70_s0) fun v96 => fx_ls (fx_pt w33 b16 p33_5.toNat v96) fun u97 => fx_lt (p33_5 + 1) fun v98 => rec33 v98 u97
def kB_X1_makeSmooth_33 (rec33 : (Int → fx_U → Int × fx_U)) (p10_4 : Int) (v5 : Int) (a1 : Nat) (b16 : Nat) (a0 : Nat) (x2 : Int) (b21 : Nat) (rec10 : (Int → fx_U → Int × fx_U)) (p33_5 : Int) (w33 : fx_U) : Int × fx_U :=
  (if p33_5 < 61 then (if p10_4 = v5 then kJ_X1_makeSmooth_70 p33_5 w33 a1 p10_4 b16 rec33 0 else fx_lr (w33 a0 2) fun b55 => fx_lt (p10_4 + 1) fun v61 => fx_lt (w33 b55 v61.toNat) fun v62 => fx_lt (f_X1_nearest w33 v62 p33_5 x2) fun v66 => fx_lt (w33 b21 v66.toNat) fun v69 => kJ_X1_makeSmooth_70 p33_5 w33 a1 p10_4 b16 rec33 v69) else fx_lr (w33 a0 2) fun b105 => fx_lt (f_X1_lowestBest w33 a0) fun v111 => fx_ls (fx_pt w33 b105 p10_4.toNat v111) fun u114 => fx_lt (p10_4 + (-1)) fun v115 => rec10 v115 u114)
def kL_X1_makeSmooth_33 (p10_4 : Int) (v5 : Int) (a1 : Nat) (b16 : Nat) (a0 : Nat) (x2 : Int) (b21 : Nat) (rec10 : (Int → fx_U → Int × fx_U)) : Nat → Int → fx_U → Int × fx_U
  | 0, _, _ => (0, fun _ _ => 0)
  | n + 1, p33_5, w33 => kB_X1_makeSmooth_33 (kL_X1_makeSmooth_33 p10_4 v5 a1 b16 a0 x2 b21 rec10 n) p10_4 v5 a1 b16 a0 x2 b21 rec10 p33_5 w33
def kB_X1_makeSmooth_10 (rec10 : (Int → fx_U → Int × fx_U)) (a0 : Nat) (v5 : Int) (x2 : Int) (a1 : Nat) (p10_4 : Int) (w10 : fx_U) : Int × fx_U :=
  (if p10_4 < 0 then fx_lr (w10 a0 2) fun b122 => fx_lt (w10 b122 (Int.toNat 0)) fun v126 => kL_X1_makeSmooth_132 v5 a0 b122 x2 (Int.toNat (64 - 0) + 1) v126 0 w10 else fx_lr (w10 a0 0) fun b16 => fx_lr (w10 a0 1) fun b21 => fx_ls (fx_cy w10 b16 b21 61) fun u27 => kL_X1_makeSmooth_33 p10_4 v5 a1 b16 a0 x2 b21 rec10 (Int.toNat (61 - 0) + 1) 0 u27)
def kL_X1_makeSmooth_10 (a0 : Nat) (v5 : Int) (x2 : Int) (a1 : Nat) : Nat → Int → fx_U → Int × fx_U
  | 0, _, _ => (0, fun _ _ => 0)
  | n + 1, p10_4, w10 => kB_X1_makeSmooth_10 (kL_X1_makeSmooth_10 a0 v5 x2 a1 n) a0 v5 x2 a1 p10_4 w10
def f_X1_makeSmooth (u : fx_U) (a0 : Nat) (a1 : Nat) (x2 : Int) : Int × fx_U :=
  fx_lt (u a1 0) fun v1 => fx_lt (v1 - 1) fun v5 => kL_X1_makeSmooth_10 a0 v5 x2 a1 (Int.toNat (v5 - (-1)) + 1) v5 u
def kJ_X11_row_54 (u : fx_U) (b30 : Nat) (b34 : Nat) (x2 : Int) (v42 : Int) (a0 : Nat) (b39 : Nat) (x1 : Int) (p54_s0 : Int) : Int × fx_U :=
  fx_lc (f_X8_read u b30 b34 x2 v42 p54_s0) fun v54 u54 => fx_ls (fx_pt u54 a0 1 0) fun u60 => (if v54 < 0 then (v54, u60) else fx_lq (f_X7_rowOf u60 b39 x1) fun b76 => fx_ls (f_X8_writeTo u60 b30 b76 v42) fun u86 => (v54, u86))
def f_X11_row (u : fx_U) (a0 : Nat) (x1 : Int) (x2 : Int) : Int × fx_U :=
  fx_lt (u a0 1) fun q_1v => fx_lt (f_X11_isIn u x1 0 2) fun v3 => (if v3 = 0 then ((-1), u) else fx_lt (f_X11_isIn u x2 1 120) fun v13 => (if v13 = 0 then ((-1), u) else (if q_1v < x2 then ((-1), u) else fx_lr (u a0 2) fun b30 => fx_lr (u a0 0) fun b34 => fx_lr (u a0 5) fun b39 => fx_lt (u b39 0) fun v42 => (if x1 = 0 then kJ_X11_row_54 u b30 b34 x2 v42 a0 b39 x1 1 else kJ_X11_row_54 u b30 b34 x2 v42 a0 b39 x1 0))))
def kB_X11_putOnTape_3 (rec3 : (Int → fx_U → Int → fx_U)) (a0 : Nat) (x1 : Int) (p3_2 : Int) (w3 : fx_U) (F3 : Int) : fx_U :=
  (if p3_2 < 0 then w3 else (if F3 < 260 then fx_lr (w3 a0 0) fun b18 => fx_lt (fx_b_ushr x1 p3_2) fun v27 => fx_lt (fx_b_and v27 255) fun v31 => fx_ls (fx_pt w3 b18 F3.toNat v31) fun u32 => fx_lt (F3 + 1) fun v39 => fx_ls (fx_pt u32 a0 1 v39) fun u40 => fx_lt (p3_2 + (-8)) fun v43 => rec3 v43 u40 v39 else w3))
def kL_X11_putOnTape_3 (a0 : Nat) (x1 : Int) : Nat → Int → fx_U → Int → fx_U
  | 0, _, _, _ => (fun _ _ => 0)
  | n + 1, p3_2, w3, F3 => kB_X11_putOnTape_3 (kL_X11_putOnTape_3 a0 x1 n) a0 x1 p3_2 w3 F3
def f_X11_putOnTape (u : fx_U) (a0 : Nat) (x1 : Int) : fx_U :=
  fx_lt (u a0 1) fun q_1v => kL_X11_putOnTape_3 a0 x1 (Int.toNat (24 - (-8)) + 1) 24 u q_1v
def f_X11_feed (u : fx_U) (a0 : Nat) (x1 : Int) (x2 : Int) (x3 : Int) (x4 : Int) (x5 : Int) : Int × fx_U :=
  fx_lt (u a0 1) fun q_1v => (if 240 < q_1v then ((-1), u) else fx_ls (f_X11_putOnTape u a0 x1) fun u14 => fx_lt (u14 a0 1) fun t14 => fx_ls (f_X11_putOnTape u14 a0 x2) fun u19 => fx_lt (u19 a0 1) fun t19 => fx_ls (f_X11_putOnTape u19 a0 x3) fun u24 => fx_lt (u24 a0 1) fun t24 => fx_ls (f_X11_putOnTape u24 a0 x4) fun u30 => fx_lt (u30 a0 1) fun t30 => fx_ls (f_X11_putOnTape u30 a0 x5) fun u36 => fx_lt (u36 a0 1) fun t36 => (t36, u36))
def kJ_X11_smooth_29 (u : fx_U) (a0 : Nat) (x1 : Int) (x2 : Int) : Int × fx_U :=
  fx_lr (u a0 10) fun b30 => fx_lr (u a0 5) fun b34 => fx_lc (f_X1_makeSmooth u b30 b34 x1) fun v38 u38 => (if x2 = 100 then (v38, u38) else fx_lr (u38 b30 4) fun b56 => fx_lt (u38 b56 x2.toNat) fun v60 => fx_lt (fx_b_add v60 100) fun v63 => (v63, u38))
def f_X11_smooth (u : fx_U) (a0 : Nat) (x1 : Int) (x2 : Int) : Int × fx_U :=
  fx_lt (f_X11_isIn u x1 0 9) fun v4 => (if v4 = 0 then ((-1), u) else (if x2 = 100 then kJ_X11_smooth_29 u a0 x1 x2 else fx_lr (u a0 5) fun b17 => fx_lt (f_X7_isDot u b17 x2) fun v21 => (if v21 = 0 then ((-1), u) else kJ_X11_smooth_29 u a0 x1 x2)))
def f_X12_in (u : fx_U) (x0 : Int) (x1 : Int) (x2 : Int) : Int :=
  (if x0 < x1 then 0 else (if x2 < x0 then 0 else 1))
def f_X12_min (u : fx_U) (x0 : Int) (x1 : Int) : Int :=
  (if x0 < x1 then x0 else x1)
def f_X12_max (u : fx_U) (x0 : Int) (x1 : Int) : Int :=
  (if x1 < x0 then x0 else x1)
def f_X12_size (u : fx_U) (x0 : Int) : Int :=
  (if x0 < 0 then fx_lt (fx_b_neg x0) fun v5 => v5 else x0)
def f_X12_wrongAt (u : fx_U) (a0 : Nat) (x1 : Int) (x2 : Int) : Int × fx_U :=
  fx_lt (fx_b_mul (-1000) x1) fun v5 => fx_lt (fx_b_sub v5 x2) fun v7 => fx_ls (fx_pt u a0 7 v7) fun u8 => (0, u8)
def f_X12_isDot (u : fx_U) (a0 : Nat) (x1 : Int) : Int :=
  fx_lr (u a0 0) fun q_1b => fx_lt (u q_1b (Int.toNat 512)) fun q_2v => (if x1 < 0 then 0 else (if x1 < q_2v then 1 else 0))
def f_X12_offBy (u : fx_U) (a0 : Nat) (x1 : Int) (x2 : Int) : Int :=
  fx_lr (u a0 0) fun q_1b => fx_lt (0 + x1) fun v7 => fx_lt (u q_1b v7.toNat) fun v8 => fx_lt (x2 - v8) fun v9 => fx_lt (f_X12_size u v9) fun v10 => fx_lr (u a0 30) fun b14 => fx_lt (61 * x1) fun v20 => fx_lt (v20 + x2) fun v22 => fx_lt (v22 + 30) fun v25 => fx_lt (u b14 v25.toNat) fun v26 => fx_lt (fx_b_add v10 v26) fun v27 => v27
def kB_X12_types_2 (rec2 : (Int → fx_U → Int → fx_U)) (a0 : Nat) (x1 : Int) (p2_2 : Int) (w2 : fx_U) (F2 : Int) : fx_U :=
  (if p2_2 < 0 then w2 else fx_lr (w2 a0 3) fun b7 => fx_lt (8 * p2_2) fun v18 => fx_lt (fx_b_shr x1 v18) fun v19 => fx_lt (fx_b_i2b v19) fun v20 => fx_ls (fx_pt w2 b7 F2.toNat (fx_b_i2b v20)) fun u21 => fx_lt (F2 + 1) fun v28 => fx_ls (fx_pt u21 a0 4 v28) fun u29 => fx_lt (p2_2 + (-1)) fun v32 => rec2 v32 u29 v28)
def kL_X12_types_2 (a0 : Nat) (x1 : Int) : Nat → Int → fx_U → Int → fx_U
  | 0, _, _, _ => (fun _ _ => 0)
  | n + 1, p2_2, w2, F2 => kB_X12_types_2 (kL_X12_types_2 a0 x1 n) a0 x1 p2_2 w2 F2
def f_X12_types (u : fx_U) (a0 : Nat) (x1 : Int) : fx_U :=
  fx_lt (u a0 4) fun t => kL_X12_types_2 a0 x1 (Int.toNat (3 - (-1)) + 1) 3 u t
def f_X12_feed (u : fx_U) (a0 : Nat) (x1 : Int) (x2 : Int) (x3 : Int) (x4 : Int) (x5 : Int) : Int × fx_U :=
  fx_lt (u a0 4) fun q_1v => fx_lt (q_1v + 20) fun v6 => (if 260 < v6 then ((-1), u) else fx_ls (f_X12_types u a0 x1) fun u17 => fx_lt (u17 a0 4) fun t17 => fx_ls (f_X12_types u17 a0 x2) fun u22 => fx_lt (u22 a0 4) fun t22 => fx_ls (f_X12_types u22 a0 x3) fun u27 => fx_lt (u27 a0 4) fun t27 => fx_ls (f_X12_types u27 a0 x4) fun u33 => fx_lt (u33 a0 4) fun t33 => fx_ls (f_X12_types u33 a0 x5) fun u39 => fx_lt (u39 a0 4) fun t39 => (t39, u39))
def f_X12_here (u : fx_U) (a0 : Nat) : Int :=
  fx_lt (u a0 5) fun q_1v => fx_lt (u a0 6) fun q_2v => fx_lr (u a0 3) fun q_3b => (if q_1v < q_2v then fx_lt (u q_3b q_1v.toNat) fun v19 => fx_lt (fx_b_and v19 255) fun v23 => v23 else (-1))
def f_X12_isDigit (u : fx_U) (a0 : Nat) : Int :=
  fx_lt (u a0 5) fun q_1v => fx_lt (f_X12_here u a0) fun v1 => (if v1 < 48 then 0 else fx_lt (f_X12_here u a0) fun v10 => (if 57 < v10 then 0 else 1))
def f_X12_takes (u : fx_U) (a0 : Nat) (x1 : Int) : Int × fx_U :=
  fx_lt (u a0 5) fun q_1v => fx_lt (f_X12_here u a0) fun v1 => (if v1 = x1 then fx_lt (q_1v + 1) fun v24 => fx_ls (fx_pt u a0 5 v24) fun u25 => (1, u25) else fx_lc (f_X12_wrongAt u a0 1 q_1v) fun v14 u14 => (v14, u14))
def kB_X12_readsTwo_27 (rec27 : (fx_U → Int → Int → Int × fx_U)) (a0 : Nat) (q_1v : Int) (w27 : fx_U) (F27 : Int) (G27 : Int) : Int × fx_U :=
  fx_lt (f_X12_isDigit w27 a0) fun v28 => (if v28 = 0 then (1, w27) else fx_lt (q_1v + 2) fun v40 => (if F27 < v40 then fx_lt (10 * G27) fun v51 => fx_lt (f_X12_here w27 a0) fun v53 => fx_lt (v51 + v53) fun v56 => fx_lt (v56 - 48) fun v59 => fx_ls (fx_pt w27 a0 8 v59) fun u60 => fx_lt (F27 + 1) fun v69 => fx_ls (fx_pt u60 a0 5 v69) fun u70 => rec27 u70 v69 v59 else (1, w27)))
def kL_X12_readsTwo_27 (a0 : Nat) (q_1v : Int) : Nat → fx_U → Int → Int → Int × fx_U
  | 0, _, _, _ => (0, fun _ _ => 0)
  | n + 1, w27, F27, G27 => kB_X12_readsTwo_27 (kL_X12_readsTwo_27 a0 q_1v n) a0 q_1v w27 F27 G27
def f_X12_readsTwo (u : fx_U) (a0 : Nat) : Int × fx_U :=
  fx_lt (u a0 5) fun q_1v => fx_lt (f_X12_isDigit u a0) fun v6 => (if v6 = 0 then fx_lc (f_X12_wrongAt u a0 1 q_1v) fun v18 u18 => (v18, u18) else fx_ls (fx_pt u a0 8 0) fun u24 => kL_X12_readsTwo_27 a0 q_1v (Int.toNat (260 - q_1v) + 1) u24 q_1v 0)
def kB_X12_readsValue_183 (rec183 : (Int → fx_U → Int → Int → Int × fx_U)) (p154_6 : Int) (a0 : Nat) (p88_s0 : Int) (p183_7 : Int) (w183 : fx_U) (F183 : Int) (G183 : Int) : Int × fx_U :=
  (if p183_7 < p154_6 then fx_lr (w183 a0 26) fun b191 => fx_lt (G183 + p183_7) fun v200 => fx_ls (fx_pt w183 b191 v200.toNat p88_s0) fun u203 => fx_lt (p183_7 + 1) fun v204 => rec183 v204 u203 F183 G183 else fx_lt (G183 + p154_6) fun v217 => fx_ls (fx_pt w183 a0 14 v217) fun u218 => (1, u218))
def kL_X12_readsValue_183 (p154_6 : Int) (a0 : Nat) (p88_s0 : Int) : Nat → Int → fx_U → Int → Int → Int × fx_U
  | 0, _, _, _, _ => (0, fun _ _ => 0)
  | n + 1, p183_7, w183, F183, G183 => kB_X12_readsValue_183 (kL_X12_readsValue_183 p154_6 a0 p88_s0 n) p154_6 a0 p88_s0 p183_7 w183 F183 G183
def kJ_X12_readsValue_154 (a0 : Nat) (q_1v : Int) (p88_s0 : Int) (p154_6 : Int) (w154 : fx_U) (F154 : Int) : Int × fx_U :=
  fx_lt (w154 a0 14) fun v155 => fx_lt (v155 + p154_6) fun v160 => fx_lr (w154 a0 0) fun b162 => fx_lt (w154 b162 (Int.toNat 512)) fun v168 => (if v168 < v160 then fx_lc (f_X12_wrongAt w154 a0 6 q_1v) fun v176 u176 => (v176, u176) else kL_X12_readsValue_183 p154_6 a0 p88_s0 (Int.toNat (64 - 0) + 1) 0 w154 F154 v155)
def kJ_X12_readsValue_88 (u45 : fx_U) (a0 : Nat) (q_1v : Int) (p88_s0 : Int) (F88 : Int) : Int × fx_U :=
  fx_lt (f_X12_here u45 a0) fun v94 => (if v94 = 42 then fx_lt (F88 + 1) fun v108 => fx_ls (fx_pt u45 a0 5 v108) fun u109 => fx_lc (f_X12_readsTwo u109 a0) fun v119 u119 => fx_lt (u119 a0 5) fun y119 => (if v119 = 0 then (0, u119) else fx_lt (u119 a0 8) fun n119 => fx_lt (f_X12_in u119 n119 2 64) fun v134 => (if v134 = 0 then fx_lc (f_X12_wrongAt u119 a0 3 v108) fun v144 u144 => (v144, u144) else kJ_X12_readsValue_154 a0 q_1v p88_s0 n119 u119 y119)) else kJ_X12_readsValue_154 a0 q_1v p88_s0 1 u45 F88)
def kJ_X12_readsValue_72 (p23_s0 : Int) (u45 : fx_U) (a0 : Nat) (q_1v : Int) (n45 : Int) (F72 : Int) : Int × fx_U :=
  (if p23_s0 = 0 then kJ_X12_readsValue_88 u45 a0 q_1v n45 F72 else fx_lt (-n45) fun v80 => kJ_X12_readsValue_88 u45 a0 q_1v v80 F72)
def kJ_X12_readsValue_38 (a0 : Nat) (p23_s0 : Int) (q_1v : Int) (w38 : fx_U) (F38 : Int) : Int × fx_U :=
  fx_lc (f_X12_readsTwo w38 a0) fun v45 u45 => fx_lt (u45 a0 5) fun y45 => (if v45 = 0 then (0, u45) else fx_lt (u45 a0 8) fun n45 => (if p23_s0 = 0 then kJ_X12_readsValue_72 p23_s0 u45 a0 q_1v n45 y45 else (if n45 = 0 then fx_lc (f_X12_wrongAt u45 a0 1 F38) fun v68 u68 => (v68, u68) else kJ_X12_readsValue_72 p23_s0 u45 a0 q_1v n45 y45)))
def kJ_X12_readsValue_23 (a0 : Nat) (q_1v : Int) (u : fx_U) (p23_s0 : Int) : Int × fx_U :=
  (if p23_s0 = 0 then kJ_X12_readsValue_38 a0 p23_s0 q_1v u q_1v else fx_lt (q_1v + 1) fun v34 => fx_ls (fx_pt u a0 5 v34) fun u35 => kJ_X12_readsValue_38 a0 p23_s0 q_1v u35 v34)
def kJ_X12_readsValue_22 (a0 : Nat) (q_1v : Int) (u : fx_U) : Int × fx_U :=
  kJ_X12_readsValue_23 a0 q_1v u 0
def f_X12_readsValue (u : fx_U) (a0 : Nat) (x1 : Int) : Int × fx_U :=
  fx_lt (u a0 5) fun q_1v => (if x1 = 0 then kJ_X12_readsValue_22 a0 q_1v u else fx_lt (f_X12_here u a0) fun v10 => (if v10 = 45 then kJ_X12_readsValue_23 a0 q_1v u 1 else kJ_X12_readsValue_22 a0 q_1v u))
def kB_X12_row_142 (rec142 : (Int → Int → fx_U → Int × fx_U)) (q_4v : Int) (x1 : Int) (a0 : Nat) (q_3b : Nat) (p142_4 : Int) (p142_5 : Int) (w142 : fx_U) : Int × fx_U :=
  (if p142_5 < q_4v then fx_lt (64 * x1) fun v162 => fx_lt (v162 + p142_5) fun v165 => fx_lr (w142 a0 26) fun b167 => fx_lt (w142 b167 p142_5.toNat) fun v172 => fx_ls (fx_pt w142 q_3b v165.toNat v172) fun u173 => fx_lt (f_X12_size u173 v172) fun v183 => fx_lt (fx_b_add p142_4 v183) fun v186 => fx_lt (p142_5 + 1) fun v189 => rec142 v186 v189 u173 else (p142_4, w142))
def kL_X12_row_142 (q_4v : Int) (x1 : Int) (a0 : Nat) (q_3b : Nat) : Nat → Int → Int → fx_U → Int × fx_U
  | 0, _, _, _ => (0, fun _ _ => 0)
  | n + 1, p142_4, p142_5, w142 => kB_X12_row_142 (kL_X12_row_142 q_4v x1 a0 q_3b n) q_4v x1 a0 q_3b p142_4 p142_5 w142
def kJ_X12_row_122 (w58 : fx_U) (a0 : Nat) (p58_3 : Int) (q_4v : Int) (x1 : Int) (q_3b : Nat) : Int × fx_U :=
  fx_ls (fx_pt w58 a0 4 0) fun u124 => (if p58_3 = 0 then fx_lt (u124 a0 7) fun v132 => (v132, u124) else kL_X12_row_142 q_4v x1 a0 q_3b (Int.toNat (64 - 0) + 1) 0 0 u124)
def kJ_X12_row_118 (rec58 : (Int → fx_U → Int → Int × fx_U)) (p118_s0 : Int) (w118 : fx_U) (F118 : Int) : Int × fx_U :=
  rec58 p118_s0 w118 F118
def kJ_X12_row_117 (rec58 : (Int → fx_U → Int → Int × fx_U)) (w117 : fx_U) (F117 : Int) : Int × fx_U :=
  kJ_X12_row_118 rec58 0 w117 F117
def kJ_X12_row_107 (u91 : fx_U) (a0 : Nat) (rec58 : (Int → fx_U → Int → Int × fx_U)) (p107_s0 : Int) : Int × fx_U :=
  fx_lc (f_X12_readsValue u91 a0 p107_s0) fun v107 u107 => fx_lt (u107 a0 5) fun y107 => (if v107 = 0 then kJ_X12_row_117 rec58 u107 y107 else kJ_X12_row_118 rec58 1 u107 y107)
def kJ_X12_row_88 (w58 : fx_U) (a0 : Nat) (rec58 : (Int → fx_U → Int → Int × fx_U)) (x1 : Int) : Int × fx_U :=
  fx_lc (f_X12_takes w58 a0 44) fun v91 u91 => fx_lt (u91 a0 5) fun y91 => (if v91 = 0 then kJ_X12_row_117 rec58 u91 y91 else (if x1 = 0 then kJ_X12_row_107 u91 a0 rec58 1 else kJ_X12_row_107 u91 a0 rec58 0))
def kB_X12_row_58 (rec58 : (Int → fx_U → Int → Int × fx_U)) (a0 : Nat) (q_4v : Int) (x1 : Int) (q_3b : Nat) (p58_3 : Int) (w58 : fx_U) (F58 : Int) : Int × fx_U :=
  (if p58_3 = 0 then kJ_X12_row_122 w58 a0 p58_3 q_4v x1 q_3b else fx_lt (w58 a0 6) fun v67 => (if F58 < v67 then kJ_X12_row_88 w58 a0 rec58 x1 else fx_lt (w58 a0 14) fun v74 => (if v74 < q_4v then kJ_X12_row_88 w58 a0 rec58 x1 else kJ_X12_row_122 w58 a0 p58_3 q_4v x1 q_3b)))
def kL_X12_row_58 (a0 : Nat) (q_4v : Int) (x1 : Int) (q_3b : Nat) : Nat → Int → fx_U → Int → Int × fx_U
  | 0, _, _, _ => (0, fun _ _ => 0)
  | n + 1, p58_3, w58, F58 => kB_X12_row_58 (kL_X12_row_58 a0 q_4v x1 q_3b n) a0 q_4v x1 q_3b p58_3 w58 F58
def kJ_X12_row_54 (u41 : fx_U) (a0 : Nat) (q_4v : Int) (x1 : Int) (q_3b : Nat) (p54_s0 : Int) : Int × fx_U :=
  fx_lc (f_X12_readsValue u41 a0 p54_s0) fun v54 u54 => fx_lt (u54 a0 5) fun y54 => kL_X12_row_58 a0 q_4v x1 q_3b (Int.toNat (2 * (260 - y54) + v54) + 1) v54 u54 y54
def f_X12_row (u : fx_U) (a0 : Nat) (x1 : Int) (x2 : Int) : Int × fx_U :=
  fx_lt (u a0 5) fun q_1v => fx_lt (u a0 4) fun q_2v => fx_lr (u a0 0) fun q_3b => fx_lt (u q_3b (Int.toNat 512)) fun q_4v => fx_lt (f_X12_in u x1 0 2) fun v3 => (if v3 = 0 then ((-1), u) else fx_lt (f_X12_in u x2 1 120) fun v13 => (if v13 = 0 then ((-1), u) else (if q_2v < x2 then ((-1), u) else fx_ls (fx_pt u a0 5 0) fun u31 => fx_ls (fx_pt u31 a0 6 x2) fun u36 => fx_ls (fx_pt u36 a0 14 0) fun u41 => (if x1 = 0 then kJ_X12_row_54 u41 a0 q_4v x1 q_3b 1 else kJ_X12_row_54 u41 a0 q_4v x1 q_3b 0))))
def kB_X12_laysSmooth_76 (rec76 : (Int → Int → fx_U)) (p53_4 : Int) (x1 : Int) (w53 : fx_U) (p45_3 : Int) (q_3b : Nat) (rec53 : (Int → fx_U → fx_U)) (a0 : Nat) (p76_5 : Int) (p76_6 : Int) : fx_U :=
  fx_lt (p53_4 + x1) fun v83 => fx_lt (f_X12_min w53 30 v83) fun v84 => (if v84 < p76_6 then fx_lt (61 * p45_3) fun v119 => fx_lt (v119 + p53_4) fun v122 => fx_lt (v122 + 30) fun v125 => fx_ls (fx_pt w53 q_3b v125.toNat p76_5) fun u128 => fx_lt (p53_4 + 1) fun v129 => rec53 v129 u128 else fx_lt (p45_3 + 1) fun v95 => fx_lt (f_X12_offBy w53 a0 v95 p76_6) fun v98 => fx_lt (f_X12_min w53 p76_5 v98) fun v101 => fx_lt (p76_6 + 1) fun v106 => rec76 v101 v106)
def kL_X12_laysSmooth_76 (p53_4 : Int) (x1 : Int) (w53 : fx_U) (p45_3 : Int) (q_3b : Nat) (rec53 : (Int → fx_U → fx_U)) (a0 : Nat) : Nat → Int → Int → fx_U
  | 0, _, _ => (fun _ _ => 0)
  | n + 1, p76_5, p76_6 => kB_X12_laysSmooth_76 (kL_X12_laysSmooth_76 p53_4 x1 w53 p45_3 q_3b rec53 a0 n) p53_4 x1 w53 p45_3 q_3b rec53 a0 p76_5 p76_6
def kB_X12_laysSmooth_53 (rec53 : (Int → fx_U → fx_U)) (p45_3 : Int) (rec45 : (Int → fx_U → fx_U)) (x1 : Int) (q_3b : Nat) (a0 : Nat) (p53_4 : Int) (w53 : fx_U) : fx_U :=
  (if 30 < p53_4 then fx_lt (p45_3 + (-1)) fun v135 => rec45 v135 w53 else fx_lt (p53_4 - x1) fun v70 => fx_lt (f_X12_max w53 (-30) v70) fun v71 => kL_X12_laysSmooth_76 p53_4 x1 w53 p45_3 q_3b rec53 a0 (Int.toNat (31 - v71) + 1) 1000000000 v71)
def kL_X12_laysSmooth_53 (p45_3 : Int) (rec45 : (Int → fx_U → fx_U)) (x1 : Int) (q_3b : Nat) (a0 : Nat) : Nat → Int → fx_U → fx_U
  | 0, _, _ => (fun _ _ => 0)
  | n + 1, p53_4, w53 => kB_X12_laysSmooth_53 (kL_X12_laysSmooth_53 p45_3 rec45 x1 q_3b a0 n) p45_3 rec45 x1 q_3b a0 p53_4 w53
def kB_X12_laysSmooth_45 (rec45 : (Int → fx_U → fx_U)) (x1 : Int) (q_3b : Nat) (a0 : Nat) (p45_3 : Int) (w45 : fx_U) : fx_U :=
  (if p45_3 < 0 then w45 else kL_X12_laysSmooth_53 p45_3 rec45 x1 q_3b a0 (Int.toNat (31 - (-30)) + 1) (-30) w45)
def kL_X12_laysSmooth_45 (x1 : Int) (q_3b : Nat) (a0 : Nat) : Nat → Int → fx_U → fx_U
  | 0, _, _ => (fun _ _ => 0)
  | n + 1, p45_3, w45 => kB_X12_laysSmooth_45 (kL_X12_laysSmooth_45 x1 q_3b a0 n) x1 q_3b a0 p45_3 w45
def kB_X12_laysSmooth_12 (rec12 : (Int → fx_U → fx_U)) (q_2v : Int) (x1 : Int) (q_3b : Nat) (a0 : Nat) (p12_3 : Int) (w12 : fx_U) : fx_U :=
  (if 30 < p12_3 then fx_lt (q_2v - 2) fun v43 => kL_X12_laysSmooth_45 x1 q_3b a0 (Int.toNat (v43 - (-1)) + 1) v43 w12 else fx_lt (q_2v - 1) fun v26 => fx_lt (61 * v26) fun v27 => fx_lt (v27 + p12_3) fun v29 => fx_lt (v29 + 30) fun v32 => fx_ls (fx_pt w12 q_3b v32.toNat 0) fun u34 => fx_lt (p12_3 + 1) fun v35 => rec12 v35 u34)
def kL_X12_laysSmooth_12 (q_2v : Int) (x1 : Int) (q_3b : Nat) (a0 : Nat) : Nat → Int → fx_U → fx_U
  | 0, _, _ => (fun _ _ => 0)
  | n + 1, p12_3, w12 => kB_X12_laysSmooth_12 (kL_X12_laysSmooth_12 q_2v x1 q_3b a0 n) q_2v x1 q_3b a0 p12_3 w12
def f_X12_laysSmooth (u : fx_U) (a0 : Nat) (x1 : Int) : fx_U :=
  fx_lr (u a0 0) fun q_1b => fx_lt (u q_1b (Int.toNat 512)) fun q_2v => fx_lr (u a0 30) fun q_3b => kL_X12_laysSmooth_12 q_2v x1 q_3b a0 (Int.toNat (31 - (-30)) + 1) (-30) u
def kB_X12_smooth_101 (rec101 : (Int → Int × fx_U)) (u28 : fx_U) (a0 : Nat) (p92_8 : Int) (p92_6 : Int) (q_1b : Nat) (x1 : Int) (rec92 : (Int → Int → Int → Int → Int × fx_U)) (p101_7 : Int) : Int × fx_U :=
  fx_lt (f_X12_offBy u28 a0 p92_8 p101_7) fun v106 => (if v106 = p92_6 then fx_lt (0 + p92_8) fun v134 => fx_lt (u28 q_1b v134.toNat) fun v135 => fx_lt (p101_7 - v135) fun v136 => fx_lt (f_X12_size u28 v136) fun v137 => fx_lt (p92_6 - v137) fun v140 => fx_lt (p101_7 - x1) fun v148 => fx_lt (f_X12_max u28 (-30) v148) fun v149 => fx_lt (p92_8 + 1) fun v153 => rec92 v149 v140 p101_7 v153 else fx_lt (p101_7 + 1) fun v117 => rec101 v117)
def kL_X12_smooth_101 (u28 : fx_U) (a0 : Nat) (p92_8 : Int) (p92_6 : Int) (q_1b : Nat) (x1 : Int) (rec92 : (Int → Int → Int → Int → Int × fx_U)) : Nat → Int → Int × fx_U
  | 0, _ => (0, fun _ _ => 0)
  | n + 1, p101_7 => kB_X12_smooth_101 (kL_X12_smooth_101 u28 a0 p92_8 p92_6 q_1b x1 rec92 n) u28 a0 p92_8 p92_6 q_1b x1 rec92 p101_7
def kB_X12_smooth_92 (rec92 : (Int → Int → Int → Int → Int × fx_U)) (x2 : Int) (u28 : fx_U) (a0 : Nat) (q_1b : Nat) (x1 : Int) (p92_3 : Int) (p92_6 : Int) (p92_7 : Int) (p92_8 : Int) : Int × fx_U :=
  (if x2 < p92_8 then fx_lt (p92_7 + 100) fun v163 => (v163, u28) else kL_X12_smooth_101 u28 a0 p92_8 p92_6 q_1b x1 rec92 (61) p92_3)
def kL_X12_smooth_92 (x2 : Int) (u28 : fx_U) (a0 : Nat) (q_1b : Nat) (x1 : Int) : Nat → Int → Int → Int → Int → Int × fx_U
  | 0, _, _, _, _ => (0, fun _ _ => 0)
  | n + 1, p92_3, p92_6, p92_7, p92_8 => kB_X12_smooth_92 (kL_X12_smooth_92 x2 u28 a0 q_1b x1 n) x2 u28 a0 q_1b x1 p92_3 p92_6 p92_7 p92_8
def kB_X12_smooth_46 (rec46 : (Int → Int → Int × fx_U)) (x2 : Int) (u28 : fx_U) (a0 : Nat) (q_1b : Nat) (x1 : Int) (p46_5 : Int) (p46_6 : Int) : Int × fx_U :=
  (if 30 < p46_6 then (if x2 = 100 then (p46_5, u28) else kL_X12_smooth_92 x2 u28 a0 q_1b x1 (Int.toNat (64 - 0) + 1) (-30) p46_5 0 0) else fx_lt (f_X12_offBy u28 a0 0 p46_6) fun v59 => fx_lt (f_X12_min u28 p46_5 v59) fun v62 => fx_lt (p46_6 + 1) fun v67 => rec46 v62 v67)
def kL_X12_smooth_46 (x2 : Int) (u28 : fx_U) (a0 : Nat) (q_1b : Nat) (x1 : Int) : Nat → Int → Int → Int × fx_U
  | 0, _, _ => (0, fun _ _ => 0)
  | n + 1, p46_5, p46_6 => kB_X12_smooth_46 (kL_X12_smooth_46 x2 u28 a0 q_1b x1 n) x2 u28 a0 q_1b x1 p46_5 p46_6
def kJ_X12_smooth_26 (u : fx_U) (a0 : Nat) (x1 : Int) (x2 : Int) (q_1b : Nat) : Int × fx_U :=
  fx_ls (f_X12_laysSmooth u a0 x1) fun u28 => kL_X12_smooth_46 x2 u28 a0 q_1b x1 (Int.toNat (31 - (-30)) + 1) 1000000000 (-30)
def f_X12_smooth (u : fx_U) (a0 : Nat) (x1 : Int) (x2 : Int) : Int × fx_U :=
  fx_lr (u a0 0) fun q_1b => fx_lt (u q_1b (Int.toNat 512)) fun q_2v => fx_lr (u a0 30) fun q_3b => fx_lt (f_X12_in u x1 0 9) fun v4 => (if v4 = 0 then ((-1), u) else (if x2 = 100 then kJ_X12_smooth_26 u a0 x1 x2 q_1b else fx_lt (f_X12_isDot u a0 x2) fun v18 => (if v18 = 0 then ((-1), u) else kJ_X12_smooth_26 u a0 x1 x2 q_1b)))
