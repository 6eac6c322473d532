/-! what methods compute: laid by wip/p2/build.py -/
def f_X11_isIn (u : fx_U) (x0 : Int) (x1 : Int) (x2 : Int) : Int :=
  (if x0 < x1 then 0 else (if x2 < x0 then 0 else 1))
def f_J9_max_7cf53 (u : fx_U) (x0 : Int) (x1 : Int) : Int :=
  (if x0 < x1 then x1 else x0)
def f_J9_floorMod_7cf53 (u : fx_U) (x0 : Int) (x1 : Int) : Int :=
  fx_lt (Int.tmod x0 x1) fun v2 => fx_lt (fx_b_xor x0 x1) fun v6 => (if v6 < 0 then (if v2 = 0 then v2 else fx_lt (fx_b_add v2 x1) fun v16 => v16) else v2)
def kJ_X2_nextGreen_22 (x0 : Int) (u : fx_U) (v6 : Int) (x2 : Int) (p22_s0 : Int) : Int :=
  fx_lt (fx_b_sub x0 p22_s0) fun v27 => fx_lt (f_J9_floorMod_7cf53 u v27 v6) fun v30 => (if v30 < x2 then x0 else fx_lt (fx_b_add x0 v6) fun v48 => fx_lt (fx_b_sub v48 v30) fun v51 => v51)
def f_X2_nextGreen (u : fx_U) (x0 : Int) (x1 : Int) (x2 : Int) (x3 : Int) : Int :=
  fx_lt (x2 + x3) fun v4 => fx_lt (2 * v4) fun v5 => fx_lt (f_J9_max_7cf53 u 1 v5) fun v6 => (if x1 = 0 then kJ_X2_nextGreen_22 x0 u v6 x2 0 else kJ_X2_nextGreen_22 x0 u v6 x2 v4)
def kJ_X2_waits_43 (w19 : fx_U) (a0 : Nat) (p19_4 : Int) (b1 : Nat) (x1 : Int) (x2 : Int) (p19_3 : Int) (rec19 : (Int → Int → fx_U → Int × fx_U)) (p43_s0 : Int) : Int × fx_U :=
  fx_lr (w19 a0 1) fun b46 => fx_lt (w19 b46 p19_4.toNat) fun v51 => fx_lt (w19 b1 p43_s0.toNat) fun v58 => fx_lt (f_J9_max_7cf53 w19 v51 v58) fun v59 => fx_lt (f_X2_nextGreen w19 v59 p43_s0 x1 x2) fun v66 => fx_lt (fx_b_add v66 1) fun v80 => fx_ls (fx_pt w19 b1 p43_s0.toNat v80) fun u81 => fx_lt (fx_b_sub v66 v51) fun v92 => fx_lt (fx_b_add p19_3 v92) fun v93 => fx_lt (p19_4 + 1) fun v95 => rec19 v93 v95 u81
def kB_X2_waits_19 (rec19 : (Int → Int → fx_U → Int × fx_U)) (a0 : Nat) (b1 : Nat) (x1 : Int) (x2 : Int) (p19_3 : Int) (p19_4 : Int) (w19 : fx_U) : Int × fx_U :=
  fx_lt (w19 a0 0) fun v22 => (if p19_4 < v22 then fx_lr (w19 a0 2) fun b29 => fx_lt (w19 b29 p19_4.toNat) fun v34 => (if v34 = 0 then kJ_X2_waits_43 w19 a0 p19_4 b1 x1 x2 p19_3 rec19 0 else kJ_X2_waits_43 w19 a0 p19_4 b1 x1 x2 p19_3 rec19 1) else (p19_3, w19))
def kL_X2_waits_19 (a0 : Nat) (b1 : Nat) (x1 : Int) (x2 : Int) : Nat → Int → Int → fx_U → Int × fx_U
  | 0, _, _, _ => (0, fun _ _ => 0)
  | n + 1, p19_3, p19_4, w19 => kB_X2_waits_19 (kL_X2_waits_19 a0 b1 x1 x2 n) a0 b1 x1 x2 p19_3 p19_4 w19
def f_X2_waits (u : fx_U) (a0 : Nat) (x1 : Int) (x2 : Int) : Int × fx_U :=
  fx_lr (u a0 3) fun b1 => fx_ls (fx_pt u b1 (Int.toNat 0) 0) fun u6 => fx_ls (fx_pt u6 b1 (Int.toNat 1) 0) fun u13 => kL_X2_waits_19 a0 b1 x1 x2 (Int.toNat (20 - 0) + 1) 0 0 u13
def kJ_X2_bestGreen_40 (p12_4 : Int) (rec12 : (Int → Int → Int → fx_U → Int × fx_U)) (u23 : fx_U) (p40_2 : Int) (p40_3 : Int) : Int × fx_U :=
  fx_lt (p12_4 + 1) fun v40 => rec12 p40_2 p40_3 v40 u23
def kB_X2_bestGreen_12 (rec12 : (Int → Int → Int → fx_U → Int × fx_U)) (a0 : Nat) (x1 : Int) (p12_2 : Int) (p12_3 : Int) (p12_4 : Int) (w12 : fx_U) : Int × fx_U :=
  (if 20 < p12_4 then (p12_2, w12) else fx_lc (f_X2_waits w12 a0 p12_4 x1) fun v23 u23 => (if v23 < p12_3 then kJ_X2_bestGreen_40 p12_4 rec12 u23 p12_4 v23 else kJ_X2_bestGreen_40 p12_4 rec12 u23 p12_2 p12_3))
def kL_X2_bestGreen_12 (a0 : Nat) (x1 : Int) : Nat → Int → Int → Int → fx_U → Int × fx_U
  | 0, _, _, _, _ => (0, fun _ _ => 0)
  | n + 1, p12_2, p12_3, p12_4, w12 => kB_X2_bestGreen_12 (kL_X2_bestGreen_12 a0 x1 n) a0 x1 p12_2 p12_3 p12_4 w12
def f_X2_bestGreen (u : fx_U) (a0 : Nat) (x1 : Int) : Int × fx_U :=
  fx_lc (f_X2_waits u a0 1 x1) fun v5 u5 => kL_X2_bestGreen_12 a0 x1 (Int.toNat (21 - 2) + 1) 1 v5 2 u5
def kJ_X2_take_89 (F7 : Int) (u51 : fx_U) (a0 : Nat) (p7_3 : Int) (rec7 : (Int → fx_U → Int → Int × fx_U)) : Int × fx_U :=
  fx_lt (F7 + 1) fun v95 => fx_ls (fx_pt u51 a0 0 v95) fun u96 => fx_lt (p7_3 + 1) fun v99 => rec7 v99 u96 v95
def kB_X2_take_7 (rec7 : (Int → fx_U → Int → Int × fx_U)) (x2 : Int) (a0 : Nat) (a1 : Nat) (p7_3 : Int) (w7 : fx_U) (F7 : Int) : Int × fx_U :=
  (if p7_3 < x2 then (if p7_3 < 20 then fx_lt (2 * p7_3) fun v20 => fx_lt (v20 + 1) fun v22 => (if v22 < 260 then fx_lr (w7 a0 1) fun b29 => fx_lt (w7 a1 v20.toNat) fun v37 => fx_ls (fx_pt w7 b29 p7_3.toNat v37) fun u38 => fx_lr (u38 a0 2) fun b40 => fx_lt (u38 a1 v22.toNat) fun v50 => fx_ls (fx_pt u38 b40 p7_3.toNat v50) fun u51 => fx_lt (f_X11_isIn u51 v50 0 1) fun v60 => (if v60 = 0 then (0, u51) else (if 0 < p7_3 then fx_lt (p7_3 - 1) fun v82 => fx_lt (u51 b29 v82.toNat) fun v83 => (if v37 < v83 then (0, u51) else kJ_X2_take_89 F7 u51 a0 p7_3 rec7) else kJ_X2_take_89 F7 u51 a0 p7_3 rec7)) else (0, fun _ _ => 0)) else (1, w7)) else (1, w7))
def kL_X2_take_7 (x2 : Int) (a0 : Nat) (a1 : Nat) : Nat → Int → fx_U → Int → Int × fx_U
  | 0, _, _, _ => (0, fun _ _ => 0)
  | n + 1, p7_3, w7, F7 => kB_X2_take_7 (kL_X2_take_7 x2 a0 a1 n) x2 a0 a1 p7_3 w7 F7
def f_X2_take (u : fx_U) (a0 : Nat) (a1 : Nat) (x2 : Int) : Int × fx_U :=
  fx_ls (fx_pt u a0 0 0) fun u2 => kL_X2_take_7 x2 a0 a1 (Int.toNat (20 - 0) + 1) 0 u2 0
def kB_X11_putOnTape_3 (rec3 : (Int → fx_U → Int → fx_U)) (a0 : Nat) (x1 : Int) (p3_2 : Int) (w3 : fx_U) (F3 : Int) : fx_U :=
  (if p3_2 < 0 then w3 else (if F3 < 260 then fx_lr (w3 a0 0) fun b18 => fx_lt (fx_b_ushr x1 p3_2) fun v27 => fx_lt (fx_b_and v27 255) fun v31 => fx_ls (fx_pt w3 b18 F3.toNat v31) fun u32 => fx_lt (F3 + 1) fun v39 => fx_ls (fx_pt u32 a0 1 v39) fun u40 => fx_lt (p3_2 + (-8)) fun v43 => rec3 v43 u40 v39 else w3))
def kL_X11_putOnTape_3 (a0 : Nat) (x1 : Int) : Nat → Int → fx_U → Int → fx_U
  | 0, _, _, _ => (fun _ _ => 0)
  | n + 1, p3_2, w3, F3 => kB_X11_putOnTape_3 (kL_X11_putOnTape_3 a0 x1 n) a0 x1 p3_2 w3 F3
def f_X11_putOnTape (u : fx_U) (a0 : Nat) (x1 : Int) : fx_U :=
  fx_lt (u a0 1) fun q_1v => kL_X11_putOnTape_3 a0 x1 (Int.toNat (24 - (-8)) + 1) 24 u q_1v
def f_X11_feed (u : fx_U) (a0 : Nat) (x1 : Int) (x2 : Int) (x3 : Int) (x4 : Int) (x5 : Int) : Int × fx_U :=
  fx_lt (u a0 1) fun q_1v => (if 240 < q_1v then ((-1), u) else fx_ls (f_X11_putOnTape u a0 x1) fun u14 => fx_lt (u14 a0 1) fun t14 => fx_ls (f_X11_putOnTape u14 a0 x2) fun u19 => fx_lt (u19 a0 1) fun t19 => fx_ls (f_X11_putOnTape u19 a0 x3) fun u24 => fx_lt (u24 a0 1) fun t24 => fx_ls (f_X11_putOnTape u24 a0 x4) fun u30 => fx_lt (u30 a0 1) fun t30 => fx_ls (f_X11_putOnTape u30 a0 x5) fun u36 => fx_lt (u36 a0 1) fun t36 => (t36, u36))
def kJ_X11_lights_44 (x1 : Int) (q_1v : Int) (u : fx_U) (a0 : Nat) (v5 : Int) (x2 : Int) (x3 : Int) : Int × fx_U :=
  fx_lt (2 * x1) fun v46 => (if q_1v < v46 then ((-1), u) else fx_lr (u a0 13) fun b57 => fx_lr (u a0 0) fun b61 => fx_lc (f_X2_take u b57 b61 x1) fun v65 u65 => fx_ls (fx_pt u65 a0 1 0) fun u72 => (if v65 = 0 then ((-2), u72) else (if v5 = 0 then fx_lc (f_X2_bestGreen u72 b57 x2) fun v106 u106 => (if x3 = 0 then fx_lc (f_X2_waits u106 b57 v106 x2) fun v122 u122 => (v122, u122) else (v106, u106)) else fx_lt (x3 - 10) fun v95 => fx_lc (f_X2_waits u72 b57 v95 x2) fun v97 u97 => (v97, u97))))
def f_X11_lights (u : fx_U) (a0 : Nat) (x1 : Int) (x2 : Int) (x3 : Int) : Int × fx_U :=
  fx_lt (u a0 1) fun q_1v => fx_lt (f_X11_isIn u x3 11 30) fun v5 => fx_lt (f_X11_isIn u x1 1 20) fun v14 => (if v14 = 0 then ((-1), u) else fx_lt (f_X11_isIn u x2 0 9) fun v24 => (if v24 = 0 then ((-1), u) else (if v5 = 0 then fx_lt (f_X11_isIn u x3 0 1) fun v38 => (if v38 = 0 then ((-1), u) else kJ_X11_lights_44 x1 q_1v u a0 v5 x2 x3) else kJ_X11_lights_44 x1 q_1v u a0 v5 x2 x3)))
def f_X12_in (u : fx_U) (x0 : Int) (x1 : Int) (x2 : Int) : Int :=
  (if x0 < x1 then 0 else (if x2 < x0 then 0 else 1))
def f_X12_max (u : fx_U) (x0 : Int) (x1 : Int) : Int :=
  (if x1 < x0 then x0 else x1)
def f_X12_isGreen (u : fx_U) (x0 : Int) (x1 : Int) (x2 : Int) (x3 : Int) : Int :=
  fx_lt (2 * x2) fun v3 => fx_lt (2 * x3) fun v6 => fx_lt (v3 + v6) fun v7 => fx_lt (x0 % v7) fun v8 => (if x1 = 0 then (if v8 < x2 then 1 else 0) else fx_lt (x2 + x3) fun v33 => fx_lt (v3 + x3) fun v38 => fx_lt (v38 - 1) fun v40 => fx_lt (f_X12_in u v8 v33 v40) fun v41 => v41)
def kJ_X12_waitsBy_111 (p18_7 : Int) (rec18 : (Int → Int → Int → Int)) (p111_4 : Int) (p111_6 : Int) : Int :=
  fx_lt (p18_7 + 1) fun v111 => rec18 p111_4 p111_6 v111
def kB_X12_waitsBy_63 (rec63 : (Int → Int)) (u : fx_U) (p6_5 : Int) (x2 : Int) (x3 : Int) (p18_4 : Int) (v57 : Int) (p18_7 : Int) (rec18 : (Int → Int → Int → Int)) (p63_6 : Int) : Int :=
  fx_lt (f_X12_isGreen u p63_6 p6_5 x2 x3) fun v69 => (if v69 = 0 then fx_lt (p63_6 + 1) fun v78 => rec63 v78 else fx_lt (fx_b_add p18_4 p63_6) fun v88 => fx_lt (fx_b_sub v88 v57) fun v102 => fx_lt (p63_6 + 1) fun v108 => kJ_X12_waitsBy_111 p18_7 rec18 v102 v108)
def kL_X12_waitsBy_63 (u : fx_U) (p6_5 : Int) (x2 : Int) (x3 : Int) (p18_4 : Int) (v57 : Int) (p18_7 : Int) (rec18 : (Int → Int → Int → Int)) : Nat → Int → Int
  | 0, _ => 0
  | n + 1, p63_6 => kB_X12_waitsBy_63 (kL_X12_waitsBy_63 u p6_5 x2 x3 p18_4 v57 p18_7 rec18 n) u p6_5 x2 x3 p18_4 v57 p18_7 rec18 p63_6
def kB_X12_waitsBy_18 (rec18 : (Int → Int → Int → Int)) (x1 : Int) (u : fx_U) (a0 : Nat) (p6_5 : Int) (x2 : Int) (x3 : Int) (rec6 : (Int → Int → Int)) (p18_4 : Int) (p18_6 : Int) (p18_7 : Int) : Int :=
  (if p18_7 < x1 then fx_lr (u a0 3) fun b25 => fx_lt (2 * p18_7) fun v31 => fx_lt (v31 + 1) fun v33 => fx_lt (u b25 v33.toNat) fun v34 => (if v34 = p6_5 then fx_lt (u b25 v31.toNat) fun v53 => fx_lt (fx_b_and v53 255) fun v57 => fx_lt (f_X12_max u p18_6 v57) fun v58 => kL_X12_waitsBy_63 u p6_5 x2 x3 p18_4 v57 p18_7 rec18 (Int.toNat (q_gw v58 p6_5 x2 x3) + 1) v58 else kJ_X12_waitsBy_111 p18_7 rec18 p18_4 p18_6) else fx_lt (p6_5 + 1) fun v117 => rec6 p18_4 v117)
def kL_X12_waitsBy_18 (x1 : Int) (u : fx_U) (a0 : Nat) (p6_5 : Int) (x2 : Int) (x3 : Int) (rec6 : (Int → Int → Int)) : Nat → Int → Int → Int → Int
  | 0, _, _, _ => 0
  | n + 1, p18_4, p18_6, p18_7 => kB_X12_waitsBy_18 (kL_X12_waitsBy_18 x1 u a0 p6_5 x2 x3 rec6 n) x1 u a0 p6_5 x2 x3 rec6 p18_4 p18_6 p18_7
def kB_X12_waitsBy_6 (rec6 : (Int → Int → Int)) (x1 : Int) (u : fx_U) (a0 : Nat) (x2 : Int) (x3 : Int) (p6_4 : Int) (p6_5 : Int) : Int :=
  (if p6_5 < 2 then kL_X12_waitsBy_18 x1 u a0 p6_5 x2 x3 rec6 (Int.toNat (20 - 0) + 1) p6_4 0 0 else p6_4)
def kL_X12_waitsBy_6 (x1 : Int) (u : fx_U) (a0 : Nat) (x2 : Int) (x3 : Int) : Nat → Int → Int → Int
  | 0, _, _ => 0
  | n + 1, p6_4, p6_5 => kB_X12_waitsBy_6 (kL_X12_waitsBy_6 x1 u a0 x2 x3 n) x1 u a0 x2 x3 p6_4 p6_5
def f_X12_waitsBy (u : fx_U) (a0 : Nat) (x1 : Int) (x2 : Int) (x3 : Int) : Int :=
  kL_X12_waitsBy_6 x1 u a0 x2 x3 (Int.toNat (2 - 0) + 1) 0 0
def kJ_X12_areCars_60 (p2_2 : Int) (rec2 : (Int → Int)) : Int :=
  fx_lt (p2_2 + 1) fun v60 => rec2 v60
def kB_X12_areCars_2 (rec2 : (Int → Int)) (x1 : Int) (u : fx_U) (a0 : Nat) (p2_2 : Int) : Int :=
  (if p2_2 < x1 then fx_lr (u a0 3) fun b8 => fx_lt (2 * p2_2) fun v13 => fx_lt (v13 + 1) fun v15 => fx_lt (u b8 v15.toNat) fun v16 => fx_lt (f_X12_in u v16 0 1) fun v19 => (if v19 = 0 then 0 else (if 0 < p2_2 then fx_lt (u b8 v13.toNat) fun v36 => fx_lt (fx_b_and v36 255) fun v40 => fx_lt (v13 - 2) fun v49 => fx_lt (u b8 v49.toNat) fun v50 => fx_lt (fx_b_and v50 255) fun v54 => (if v40 < v54 then 0 else kJ_X12_areCars_60 p2_2 rec2) else kJ_X12_areCars_60 p2_2 rec2)) else 1)
def kL_X12_areCars_2 (x1 : Int) (u : fx_U) (a0 : Nat) : Nat → Int → Int
  | 0, _ => 0
  | n + 1, p2_2 => kB_X12_areCars_2 (kL_X12_areCars_2 x1 u a0 n) x1 u a0 p2_2
def f_X12_areCars (u : fx_U) (a0 : Nat) (x1 : Int) : Int :=
  kL_X12_areCars_2 x1 u a0 (Int.toNat (20 - 0) + 1) 0
def kJ_X12_lights_120 (p90_5 : Int) (rec90 : (Int → Int → Int × fx_U)) (p120_4 : Int) : Int × fx_U :=
  fx_lt (p90_5 + 1) fun v120 => rec90 p120_4 v120
def kB_X12_lights_90 (rec90 : (Int → Int → Int × fx_U)) (x3 : Int) (u54 : fx_U) (a0 : Nat) (x1 : Int) (x2 : Int) (p90_4 : Int) (p90_5 : Int) : Int × fx_U :=
  (if 20 < p90_5 then (if x3 = 0 then fx_lt (f_X12_waitsBy u54 a0 x1 p90_4 x2) fun v135 => (v135, u54) else (p90_4, u54)) else fx_lt (f_X12_waitsBy u54 a0 x1 p90_5 x2) fun v102 => fx_lt (f_X12_waitsBy u54 a0 x1 p90_4 x2) fun v110 => (if v102 < v110 then kJ_X12_lights_120 p90_5 rec90 p90_5 else kJ_X12_lights_120 p90_5 rec90 p90_4))
def kL_X12_lights_90 (x3 : Int) (u54 : fx_U) (a0 : Nat) (x1 : Int) (x2 : Int) : Nat → Int → Int → Int × fx_U
  | 0, _, _ => (0, fun _ _ => 0)
  | n + 1, p90_4, p90_5 => kB_X12_lights_90 (kL_X12_lights_90 x3 u54 a0 x1 x2 n) x3 u54 a0 x1 x2 p90_4 p90_5
def kJ_X12_lights_40 (x1 : Int) (q_1v : Int) (u : fx_U) (a0 : Nat) (x3 : Int) (x2 : Int) : Int × fx_U :=
  fx_lt (2 * x1) fun v42 => (if q_1v < v42 then ((-1), u) else fx_ls (fx_pt u a0 4 0) fun u54 => fx_lt (f_X12_areCars u54 a0 x1) fun v59 => (if v59 = 0 then ((-2), u54) else (if 1 < x3 then fx_lt (x3 - 10) fun v78 => fx_lt (f_X12_waitsBy u54 a0 x1 v78 x2) fun v80 => (v80, u54) else kL_X12_lights_90 x3 u54 a0 x1 x2 (Int.toNat (21 - 2) + 1) 1 2)))
def f_X12_lights (u : fx_U) (a0 : Nat) (x1 : Int) (x2 : Int) (x3 : Int) : Int × fx_U :=
  fx_lt (u a0 4) fun q_1v => fx_lt (f_X12_in u x1 1 20) fun v4 => (if v4 = 0 then ((-1), u) else fx_lt (f_X12_in u x2 0 9) fun v14 => (if v14 = 0 then ((-1), u) else fx_lt (f_X12_in u x3 0 1) fun v23 => (if v23 = 0 then fx_lt (f_X12_in u x3 11 30) fun v34 => (if v34 = 0 then ((-1), u) else kJ_X12_lights_40 x1 q_1v u a0 x3 x2) else kJ_X12_lights_40 x1 q_1v u a0 x3 x2)))
def kB_X12_types_2 (rec2 : (Int → fx_U → Int → fx_U)) (a0 : Nat) (x1 : Int) (p2_2 : Int) (w2 : fx_U) (F2 : Int) : fx_U :=
  (if p2_2 < 0 then w2 else fx_lr (w2 a0 3) fun b7 => fx_lt (8 * p2_2) fun v18 => fx_lt (fx_b_shr x1 v18) fun v19 => fx_lt (fx_b_i2b v19) fun v20 => fx_ls (fx_pt w2 b7 F2.toNat (fx_b_i2b v20)) fun u21 => fx_lt (F2 + 1) fun v28 => fx_ls (fx_pt u21 a0 4 v28) fun u29 => fx_lt (p2_2 + (-1)) fun v32 => rec2 v32 u29 v28)
def kL_X12_types_2 (a0 : Nat) (x1 : Int) : Nat → Int → fx_U → Int → fx_U
  | 0, _, _, _ => (fun _ _ => 0)
  | n + 1, p2_2, w2, F2 => kB_X12_types_2 (kL_X12_types_2 a0 x1 n) a0 x1 p2_2 w2 F2
def f_X12_types (u : fx_U) (a0 : Nat) (x1 : Int) : fx_U :=
  fx_lt (u a0 4) fun t => kL_X12_types_2 a0 x1 (Int.toNat (3 - (-1)) + 1) 3 u t
def f_X12_feed (u : fx_U) (a0 : Nat) (x1 : Int) (x2 : Int) (x3 : Int) (x4 : Int) (x5 : Int) : Int × fx_U :=
  fx_lt (u a0 4) fun q_1v => fx_lt (q_1v + 20) fun v6 => (if 260 < v6 then ((-1), u) else fx_ls (f_X12_types u a0 x1) fun u17 => fx_lt (u17 a0 4) fun t17 => fx_ls (f_X12_types u17 a0 x2) fun u22 => fx_lt (u22 a0 4) fun t22 => fx_ls (f_X12_types u22 a0 x3) fun u27 => fx_lt (u27 a0 4) fun t27 => fx_ls (f_X12_types u27 a0 x4) fun u33 => fx_lt (u33 a0 4) fun t33 => fx_ls (f_X12_types u33 a0 x5) fun u39 => fx_lt (u39 a0 4) fun t39 => (t39, u39))
