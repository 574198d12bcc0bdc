set_option maxRecDepth 100000 in
set_option maxHeartbeats 4000000 in
theorem f_X6_argumentCount_10 {g c25 c26 c27 c28 c29 c30 c31 c32 c33 c34 c35 c36 c37 c38 c39 c40 c41 c42 c43 c44 c45 c46 c47 c48 c49 : pm_C} {dyn : pm_H} {xTc : Int32} {xFc : Int32} {xRc : Int32} {xVc : Int32} {xLr : Int32} {xFl : Int32} {xTn : Int32} {xMn : Int32} {xSt : Int64} {xAb : Int64} {xVa : Int64} {xBy : Value} {xBs : Int32} {xF1 : Int32} {xT1 : Int64} {xP1 : Int32} {xD1 : Value} {xA2 : Value} {xF2 : Int32} {xT2 : Int64} {xP2 : Int32} {xD2 : Value} {xTl : Int32} {xCs : Int32} {xCo : Int32} {xCa : Value} {xOl : Int32} {xKn : Int32} {xPa : Nat → Int32} {xUp : Nat → Int32} {xAl : Nat → Option Nat} {xHa : Nat → Int64} {xNm : Nat → Int64} {xKi : Nat → Int32} {xAm : Nat → Int32} {xPl : Nat → Int32} {xGo : Nat → Int32} {xKe : Nat → Int32} {xTo : Nat → Int32} {xFa : Nat → Option Nat} {xRe : Nat → Option Nat} {xVl : Nat → Option Nat} {xAr : Nat → Int32} {Q : pm_Q} (q n_q : Nat) (f_q : Nat → Int32) (a_q : isAr dyn q n_q f_q) (p0 : 0 ≤ xF1.toInt ∧ xF1.toInt ≤ 1) (k0 : ∀ (r9 : Int32), (r9.toInt = (n_q : Int) - xF1.toInt) → Q (some (.int r9)) (hq g (hc1 xTc xFc xRc xVc xLr xFl) (hc2 xTn) (hc3 xPa) (hc4 xUp) (hc5 xMn xSt xAb xVa) (hc6 xAl) (hc7 xHa) (hc8 xNm) (hc9 xBy xBs) (hc10 (.ref (q + 50)) xF1 xT1 xP1 xD1) (hc11 xA2 xF2 xT2 xP2 xD2) (hc12 xTl) (hc13 xKi) (hc14 xAm) (hc15 xPl) (hc16 xCs xCo xCa) (hc17 xGo) (hc18 xOl xKn) (hc19 xKe) (hc20 xTo) (hc21 xFa) (hc22 xRe) (hc23 xVl) (hc24 xAr) c25 c26 c27 c28 c29 c30 c31 c32 c33 c34 c35 c36 c37 c38 c39 c40 c41 c42 c43 c44 c45 c46 c47 c48 c49 dyn)) : pm_WP 57 (0, [(0, .ref 10)], [], hq g (hc1 xTc xFc xRc xVc xLr xFl) (hc2 xTn) (hc3 xPa) (hc4 xUp) (hc5 xMn xSt xAb xVa) (hc6 xAl) (hc7 xHa) (hc8 xNm) (hc9 xBy xBs) (hc10 (.ref (q + 50)) xF1 xT1 xP1 xD1) (hc11 xA2 xF2 xT2 xP2 xD2) (hc12 xTl) (hc13 xKi) (hc14 xAm) (hc15 xPl) (hc16 xCs xCo xCa) (hc17 xGo) (hc18 xOl xKn) (hc19 xKe) (hc20 xTo) (hc21 xFa) (hc22 xRe) (hc23 xVl) (hc24 xAr) c25 c26 c27 c28 c29 c30 c31 c32 c33 c34 c35 c36 c37 c38 c39 c40 c41 c42 c43 c44 c45 c46 c47 c48 c49 dyn, 0, 0) Q := by
  obtain ⟨h1, h2⟩ := id a_q
  refine pm_go (g := (1, [(0, .ref 10)], [.ref 10], hq g (hc1 xTc xFc xRc xVc xLr xFl) (hc2 xTn) (hc3 xPa) (hc4 xUp) (hc5 xMn xSt xAb xVa) (hc6 xAl) (hc7 xHa) (hc8 xNm) (hc9 xBy xBs) (hc10 (.ref (q + 50)) xF1 xT1 xP1 xD1) (hc11 xA2 xF2 xT2 xP2 xD2) (hc12 xTl) (hc13 xKi) (hc14 xAm) (hc15 xPl) (hc16 xCs xCo xCa) (hc17 xGo) (hc18 xOl xKn) (hc19 xKe) (hc20 xTo) (hc21 xFa) (hc22 xRe) (hc23 xVl) (hc24 xAr) c25 c26 c27 c28 c29 c30 c31 c32 c33 c34 c35 c36 c37 c38 c39 c40 c41 c42 c43 c44 c45 c46 c47 c48 c49 dyn, 0, 0)) rfl ?_
  refine pm_go (g := (4, _, [.ref (q + 50)], _, 0, 0)) rfl ?_
  refine pm_alD rfl (hq_at.trans h1) ?_
  show pm_WP 57 (5, [(0, .ref 10)], [.int (nI n_q)], hq g (hc1 xTc xFc xRc xVc xLr xFl) (hc2 xTn) (hc3 xPa) (hc4 xUp) (hc5 xMn xSt xAb xVa) (hc6 xAl) (hc7 xHa) (hc8 xNm) (hc9 xBy xBs) (hc10 (.ref (q + 50)) xF1 xT1 xP1 xD1) (hc11 xA2 xF2 xT2 xP2 xD2) (hc12 xTl) (hc13 xKi) (hc14 xAm) (hc15 xPl) (hc16 xCs xCo xCa) (hc17 xGo) (hc18 xOl xKn) (hc19 xKe) (hc20 xTo) (hc21 xFa) (hc22 xRe) (hc23 xVl) (hc24 xAr) c25 c26 c27 c28 c29 c30 c31 c32 c33 c34 c35 c36 c37 c38 c39 c40 c41 c42 c43 c44 c45 c46 c47 c48 c49 dyn, 0, 0) _
  have h3 := nI_toInt (n := n_q) (by omega)
  refine pm_go (g := (6, _, [.ref 10, .int (nI n_q)], _, 0, 0)) rfl ?_
  refine pm_go (g := (9, _, [.int xF1, .int (nI n_q)], _, 0, 0)) rfl ?_
  refine pm_go (g := (10, _, [.int ((nI n_q) - xF1)], _, 0, 0)) rfl ?_
  try have h4 : ((nI n_q) - xF1).toInt = (nI n_q).toInt - (xF1).toInt := iSub (x := (nI n_q).toInt) (y := (xF1).toInt) rfl rfl (by omega) (by omega)
  first | exact pm_ret rfl (k0 _ (by first | omega | assumption | decide | (simp only [*]; done))) | (exfalso; omega)
set_option maxRecDepth 100000 in
set_option maxHeartbeats 4000000 in
theorem f_X6_fits_10_l {g c25 c26 c27 c28 c29 c30 c31 c32 c33 c34 c35 c36 c37 c38 c39 c40 c41 c42 c43 c44 c45 c46 c47 c48 c49 : pm_C} {dyn : pm_H} {dOt dNa dRe dMa dMy dPm : Nat → Int32} {xTc : Int32} {xFc : Int32} {xRc : Int32} {xVc : Int32} {xLr : Int32} {xFl : Int32} {xTn : Int32} {xMn : Int32} {xSt : Int64} {xAb : Int64} {xVa : Int64} {xBy : Value} {xBs : Int32} {xF1 : Int32} {xT1 : Int64} {xP1 : Int32} {xD1 : Value} {xA2 : Value} {xF2 : Int32} {xT2 : Int64} {xP2 : Int32} {xD2 : Value} {xTl : Int32} {xCs : Int32} {xCo : Int32} {xCa : Value} {xOl : Int32} {xKn : Int32} {xPa : Nat → Int32} {xUp : Nat → Int32} {xAl : Nat → Option Nat} {xHa : Nat → Int64} {xNm : Nat → Int64} {xKi : Nat → Int32} {xAm : Nat → Int32} {xPl : Nat → Int32} {xGo : Nat → Int32} {xKe : Nat → Int32} {xTo : Nat → Int32} {xFa : Nat → Option Nat} {xRe : Nat → Option Nat} {xVl : Nat → Option Nat} {xAr : Nat → Int32} {Q : pm_Q} (ph : Int32) (m i_m : Nat) (q n_q : Nat) (f_q : Nat → Int32) (a_m : mbF dOt dNa dRe dMa dMy dPm dyn m i_m) (a_q : isAr dyn q n_q f_q) (p0 : 0 ≤ xF1.toInt ∧ xF1.toInt ≤ 1) : ∀ (n k : Nat), (k ≤ 3) → (3 < k + n) → (fjL xUp dMy dPm n_q f_q xF1 i_m ph k → Q (some (.int 1)) (hq g (hc1 xTc xFc xRc xVc xLr xFl) (hc2 xTn) (hc3 xPa) (hc4 xUp) (hc5 xMn xSt xAb xVa) (hc6 xAl) (hc7 xHa) (hc8 xNm) (hc9 xBy xBs) (hc10 (.ref (q + 50)) xF1 xT1 xP1 xD1) (hc11 xA2 xF2 xT2 xP2 xD2) (hc12 xTl) (hc13 xKi) (hc14 xAm) (hc15 xPl) (hc16 xCs xCo xCa) (hc17 xGo) (hc18 xOl xKn) (hc19 xKe) (hc20 xTo) (hc21 xFa) (hc22 xRe) (hc23 xVl) (hc24 xAr) c25 c26 c27 c28 c29 c30 c31 c32 c33 c34 c35 c36 c37 c38 c39 c40 c41 c42 c43 c44 c45 c46 c47 c48 c49 dyn)) → (¬ fjL xUp dMy dPm n_q f_q xF1 i_m ph k → Q (some (.int 0)) (hq g (hc1 xTc xFc xRc xVc xLr xFl) (hc2 xTn) (hc3 xPa) (hc4 xUp) (hc5 xMn xSt xAb xVa) (hc6 xAl) (hc7 xHa) (hc8 xNm) (hc9 xBy xBs) (hc10 (.ref (q + 50)) xF1 xT1 xP1 xD1) (hc11 xA2 xF2 xT2 xP2 xD2) (hc12 xTl) (hc13 xKi) (hc14 xAm) (hc15 xPl) (hc16 xCs xCo xCa) (hc17 xGo) (hc18 xOl xKn) (hc19 xKe) (hc20 xTo) (hc21 xFa) (hc22 xRe) (hc23 xVl) (hc24 xAr) c25 c26 c27 c28 c29 c30 c31 c32 c33 c34 c35 c36 c37 c38 c39 c40 c41 c42 c43 c44 c45 c46 c47 c48 c49 dyn)) → pm_WP 59 (44, [(4, .int (nI k)), (0, .ref 10), (1, .ref (m + 50)), (2, .int ph)], [], hq g (hc1 xTc xFc xRc xVc xLr xFl) (hc2 xTn) (hc3 xPa) (hc4 xUp) (hc5 xMn xSt xAb xVa) (hc6 xAl) (hc7 xHa) (hc8 xNm) (hc9 xBy xBs) (hc10 (.ref (q + 50)) xF1 xT1 xP1 xD1) (hc11 xA2 xF2 xT2 xP2 xD2) (hc12 xTl) (hc13 xKi) (hc14 xAm) (hc15 xPl) (hc16 xCs xCo xCa) (hc17 xGo) (hc18 xOl xKn) (hc19 xKe) (hc20 xTo) (hc21 xFa) (hc22 xRe) (hc23 xVl) (hc24 xAr) c25 c26 c27 c28 c29 c30 c31 c32 c33 c34 c35 c36 c37 c38 c39 c40 c41 c42 c43 c44 c45 c46 c47 c48 c49 dyn, 0, 0) Q := by
  intro n
  induction n with
  | zero =>
    intro k g1 g2 k0 k1
    exfalso; omega
  | succ n ih =>
    intro k g1 g2 k0 k1
    have hk := nI_toInt (n := k) (by omega)
    have hkc : (nI k).toNatClampNeg = k := nI_clamp (by omega)
    obtain ⟨pw1, h2, h3, h4⟩ := id a_m
    obtain ⟨h5, h6⟩ := id a_q
    refine pm_go (g := (46, [(4, .int (nI k)), (0, .ref 10), (1, .ref (m + 50)), (2, .int ph)], [.int (nI k)], hq g (hc1 xTc xFc xRc xVc xLr xFl) (hc2 xTn) (hc3 xPa) (hc4 xUp) (hc5 xMn xSt xAb xVa) (hc6 xAl) (hc7 xHa) (hc8 xNm) (hc9 xBy xBs) (hc10 (.ref (q + 50)) xF1 xT1 xP1 xD1) (hc11 xA2 xF2 xT2 xP2 xD2) (hc12 xTl) (hc13 xKi) (hc14 xAm) (hc15 xPl) (hc16 xCs xCo xCa) (hc17 xGo) (hc18 xOl xKn) (hc19 xKe) (hc20 xTo) (hc21 xFa) (hc22 xRe) (hc23 xVl) (hc24 xAr) c25 c26 c27 c28 c29 c30 c31 c32 c33 c34 c35 c36 c37 c38 c39 c40 c41 c42 c43 c44 c45 c46 c47 c48 c49 dyn, 0, 0)) rfl ?_
    refine pm_go (g := (47, _, [.ref 10, .int (nI k)], _, 0, 0)) rfl ?_
    refine pm_callD (z := 57) (as := [.ref 10]) (rest := [.int (nI k)]) rfl ?_
    refine f_X6_argumentCount_10 q n_q f_q ⟨h5, by omega⟩ (by omega) (fun v7_r9 h7 => ?_)
    show pm_WP 59 (50, [(4, .int (nI k)), (0, .ref 10), (1, .ref (m + 50)), (2, .int ph)], [.int v7_r9, .int (nI k)], _, 0, 0) _
    refine pm_if2 (g := (120, [(4, .int (nI k)), (0, .ref 10), (1, .ref (m + 50)), (2, .int ph)], [], hq g (hc1 xTc xFc xRc xVc xLr xFl) (hc2 xTn) (hc3 xPa) (hc4 xUp) (hc5 xMn xSt xAb xVa) (hc6 xAl) (hc7 xHa) (hc8 xNm) (hc9 xBy xBs) (hc10 (.ref (q + 50)) xF1 xT1 xP1 xD1) (hc11 xA2 xF2 xT2 xP2 xD2) (hc12 xTl) (hc13 xKi) (hc14 xAm) (hc15 xPl) (hc16 xCs xCo xCa) (hc17 xGo) (hc18 xOl xKn) (hc19 xKe) (hc20 xTo) (hc21 xFa) (hc22 xRe) (hc23 xVl) (hc24 xAr) c25 c26 c27 c28 c29 c30 c31 c32 c33 c34 c35 c36 c37 c38 c39 c40 c41 c42 c43 c44 c45 c46 c47 c48 c49 dyn, 0, 0)) (h := (53, [(4, .int (nI k)), (0, .ref 10), (1, .ref (m + 50)), (2, .int ph)], [], hq g (hc1 xTc xFc xRc xVc xLr xFl) (hc2 xTn) (hc3 xPa) (hc4 xUp) (hc5 xMn xSt xAb xVa) (hc6 xAl) (hc7 xHa) (hc8 xNm) (hc9 xBy xBs) (hc10 (.ref (q + 50)) xF1 xT1 xP1 xD1) (hc11 xA2 xF2 xT2 xP2 xD2) (hc12 xTl) (hc13 xKi) (hc14 xAm) (hc15 xPl) (hc16 xCs xCo xCa) (hc17 xGo) (hc18 xOl xKn) (hc19 xKe) (hc20 xTo) (hc21 xFa) (hc22 xRe) (hc23 xVl) (hc24 xAr) c25 c26 c27 c28 c29 c30 c31 c32 c33 c34 c35 c36 c37 c38 c39 c40 c41 c42 c43 c44 c45 c46 c47 c48 c49 dyn, 0, 0)) rfl (fun h9 => ?_) (fun h9 => ?_)
    ·
      have h9 := qT_ge (cx := (nI k).toInt) (cy := (v7_r9).toInt) rfl rfl h9
      refine pm_go (g := (121, _, [.int 1], _, 0, 0)) rfl ?_
      exact pm_ret rfl (k0 (fun j q1 q2 => by omega))
    have h9 := qF_ge (cx := (nI k).toInt) (cy := (v7_r9).toInt) rfl rfl h9
    refine pm_go (g := (54, _, [.ref 10], _, 0, 0)) rfl ?_
    refine pm_go (g := (57, _, [.ref (q + 50)], _, 0, 0)) rfl ?_
    refine pm_go (g := (58, _, [.ref 10, .ref (q + 50)], _, 0, 0)) rfl ?_
    refine pm_go (g := (61, _, [.int xF1, .ref (q + 50)], _, 0, 0)) rfl ?_
    refine pm_go (g := (63, _, [.int (nI k), .int xF1, .ref (q + 50)], _, 0, 0)) rfl ?_
    refine pm_go (g := (64, _, [.int (xF1 + (nI k)), .ref (q + 50)], _, 0, 0)) rfl ?_
    try have h10 : (xF1 + (nI k)).toInt = (xF1).toInt + (nI k).toInt := iAdd (x := (xF1).toInt) (y := (nI k).toInt) rfl rfl (by omega) (by omega)
    refine pm_iaD rfl (hq_at.trans h5) (pm_inI (by omega) (by omega)) ?_
    show pm_WP 59 (65, [(4, .int (nI k)), (0, .ref 10), (1, .ref (m + 50)), (2, .int ph)], [.int (f_q (xF1 + (nI k) : Int32).toNatClampNeg)], hq g (hc1 xTc xFc xRc xVc xLr xFl) (hc2 xTn) (hc3 xPa) (hc4 xUp) (hc5 xMn xSt xAb xVa) (hc6 xAl) (hc7 xHa) (hc8 xNm) (hc9 xBy xBs) (hc10 (.ref (q + 50)) xF1 xT1 xP1 xD1) (hc11 xA2 xF2 xT2 xP2 xD2) (hc12 xTl) (hc13 xKi) (hc14 xAm) (hc15 xPl) (hc16 xCs xCo xCa) (hc17 xGo) (hc18 xOl xKn) (hc19 xKe) (hc20 xTo) (hc21 xFa) (hc22 xRe) (hc23 xVl) (hc24 xAr) c25 c26 c27 c28 c29 c30 c31 c32 c33 c34 c35 c36 c37 c38 c39 c40 c41 c42 c43 c44 c45 c46 c47 c48 c49 dyn, 0, 0) _
    refine pm_go (g := (67, [(5, .int (f_q (xF1 + (nI k) : Int32).toNatClampNeg)), (4, .int (nI k)), (0, .ref 10), (1, .ref (m + 50)), (2, .int ph)], [], _, 0, 0)) rfl ?_
    refine pm_go (g := (68, _, [.ref (m + 50)], _, 0, 0)) rfl ?_
    refine pm_go (g := (70, _, [.int (nI k), .ref (m + 50)], _, 0, 0)) rfl ?_
    refine pm_go (g := (71, _, [.int ph, .int (nI k), .ref (m + 50)], _, 0, 0)) rfl ?_
    refine pm_ivD (r := m + 50) (as := [.int (nI k), .int ph]) (rest := []) rfl rfl (hq_at.trans h2) rfl ?_
    refine f_X3_typeAt m i_m (nI k) ph a_m (by omega) ?_
    show pm_WP 59 (74, [(5, .int (f_q (xF1 + (nI k) : Int32).toNatClampNeg)), (4, .int (nI k)), (0, .ref 10), (1, .ref (m + 50)), (2, .int ph)], [.int (tyM dMy dPm i_m (nI k).toNatClampNeg ph)], _, 0, 0) _
    refine pm_go (g := (76, [(6, .int (tyM dMy dPm i_m (nI k).toNatClampNeg ph)), (5, .int (f_q (xF1 + (nI k) : Int32).toNatClampNeg)), (4, .int (nI k)), (0, .ref 10), (1, .ref (m + 50)), (2, .int ph)], [], _, 0, 0)) rfl ?_
    refine pm_go (g := (77, _, [.int ph], _, 0, 0)) rfl ?_
    refine pm_go (g := (78, _, [.int 1, .int ph], _, 0, 0)) rfl ?_
    refine pm_if2 (g := (98, [(6, .int (tyM dMy dPm i_m (nI k).toNatClampNeg ph)), (5, .int (f_q (xF1 + (nI k) : Int32).toNatClampNeg)), (4, .int (nI k)), (0, .ref 10), (1, .ref (m + 50)), (2, .int ph)], [], hq g (hc1 xTc xFc xRc xVc xLr xFl) (hc2 xTn) (hc3 xPa) (hc4 xUp) (hc5 xMn xSt xAb xVa) (hc6 xAl) (hc7 xHa) (hc8 xNm) (hc9 xBy xBs) (hc10 (.ref (q + 50)) xF1 xT1 xP1 xD1) (hc11 xA2 xF2 xT2 xP2 xD2) (hc12 xTl) (hc13 xKi) (hc14 xAm) (hc15 xPl) (hc16 xCs xCo xCa) (hc17 xGo) (hc18 xOl xKn) (hc19 xKe) (hc20 xTo) (hc21 xFa) (hc22 xRe) (hc23 xVl) (hc24 xAr) c25 c26 c27 c28 c29 c30 c31 c32 c33 c34 c35 c36 c37 c38 c39 c40 c41 c42 c43 c44 c45 c46 c47 c48 c49 dyn, 0, 0)) (h := (81, [(6, .int (tyM dMy dPm i_m (nI k).toNatClampNeg ph)), (5, .int (f_q (xF1 + (nI k) : Int32).toNatClampNeg)), (4, .int (nI k)), (0, .ref 10), (1, .ref (m + 50)), (2, .int ph)], [], hq g (hc1 xTc xFc xRc xVc xLr xFl) (hc2 xTn) (hc3 xPa) (hc4 xUp) (hc5 xMn xSt xAb xVa) (hc6 xAl) (hc7 xHa) (hc8 xNm) (hc9 xBy xBs) (hc10 (.ref (q + 50)) xF1 xT1 xP1 xD1) (hc11 xA2 xF2 xT2 xP2 xD2) (hc12 xTl) (hc13 xKi) (hc14 xAm) (hc15 xPl) (hc16 xCs xCo xCa) (hc17 xGo) (hc18 xOl xKn) (hc19 xKe) (hc20 xTo) (hc21 xFa) (hc22 xRe) (hc23 xVl) (hc24 xAr) c25 c26 c27 c28 c29 c30 c31 c32 c33 c34 c35 c36 c37 c38 c39 c40 c41 c42 c43 c44 c45 c46 c47 c48 c49 dyn, 0, 0)) rfl (fun h12 => ?_) (fun h12 => ?_)
    ·
      have h12 := qT_ne (cx := (ph).toInt) (cy := 1) rfl (by decide) h12
      refine pm_go (g := (99, _, [.ref 10], _, 0, 0)) rfl ?_
      refine pm_go (g := (102, _, [.ref 2], _, 0, 0)) rfl ?_
      refine pm_go (g := (104, _, [.int (f_q (xF1 + (nI k) : Int32).toNatClampNeg), .ref 2], _, 0, 0)) rfl ?_
      refine pm_go (g := (106, _, [.int (tyM dMy dPm i_m (nI k).toNatClampNeg ph), .int (f_q (xF1 + (nI k) : Int32).toNatClampNeg), .ref 2], _, 0, 0)) rfl ?_
      refine pm_callD (z := 88) (as := [.ref 2, .int (f_q (xF1 + (nI k) : Int32).toNatClampNeg), .int (tyM dMy dPm i_m (nI k).toNatClampNeg ph)]) (rest := []) rfl ?_
      refine f_X9_isLoose (f_q (xF1 + (nI k) : Int32).toNatClampNeg) (tyM dMy dPm i_m (nI k).toNatClampNeg ph) (fun h13 => ?_) (fun h14 => ?_)
      ·
        show pm_WP 59 (109, [(6, .int (tyM dMy dPm i_m (nI k).toNatClampNeg ph)), (5, .int (f_q (xF1 + (nI k) : Int32).toNatClampNeg)), (4, .int (nI k)), (0, .ref 10), (1, .ref (m + 50)), (2, .int ph)], [.int 1], _, 0, 0) _
        refine pm_brT (g := (114, [(6, .int (tyM dMy dPm i_m (nI k).toNatClampNeg ph)), (5, .int (f_q (xF1 + (nI k) : Int32).toNatClampNeg)), (4, .int (nI k)), (0, .ref 10), (1, .ref (m + 50)), (2, .int ph)], [], hq g (hc1 xTc xFc xRc xVc xLr xFl) (hc2 xTn) (hc3 xPa) (hc4 xUp) (hc5 xMn xSt xAb xVa) (hc6 xAl) (hc7 xHa) (hc8 xNm) (hc9 xBy xBs) (hc10 (.ref (q + 50)) xF1 xT1 xP1 xD1) (hc11 xA2 xF2 xT2 xP2 xD2) (hc12 xTl) (hc13 xKi) (hc14 xAm) (hc15 xPl) (hc16 xCs xCo xCa) (hc17 xGo) (hc18 xOl xKn) (hc19 xKe) (hc20 xTo) (hc21 xFa) (hc22 xRe) (hc23 xVl) (hc24 xAr) c25 c26 c27 c28 c29 c30 c31 c32 c33 c34 c35 c36 c37 c38 c39 c40 c41 c42 c43 c44 c45 c46 c47 c48 c49 dyn, 0, 0)) rfl ?_
        refine pm_go (g := (117, [(4, .int ((nI k) + 1)), (6, .int (tyM dMy dPm i_m (nI k).toNatClampNeg ph)), (5, .int (f_q (xF1 + (nI k) : Int32).toNatClampNeg)), (0, .ref 10), (1, .ref (m + 50)), (2, .int ph)], [], _, 0, 0)) rfl ?_
        refine pm_go (g := (44, _, [], _, 0, 0)) rfl ?_
        refine pm_sub (lv := [(4, .int ((nI k) + 1)), (0, .ref 10), (1, .ref (m + 50)), (2, .int ph)]) ?_ ⟨le_c (List.Mem.head _) (le_c (List.Mem.tail _ (List.Mem.tail _ (List.Mem.tail _ (List.Mem.head _)))) (le_c (List.Mem.tail _ (List.Mem.tail _ (List.Mem.tail _ (List.Mem.tail _ (List.Mem.head _))))) (le_c (List.Mem.tail _ (List.Mem.tail _ (List.Mem.tail _ (List.Mem.tail _ (List.Mem.tail _ (List.Mem.head _)))))) le_n))), (show ([4, 6, 5, 0, 1, 2] : List Nat).Nodup by decide)⟩
        rw [nI_1]
        have hix : (xF1 + nI k).toNatClampNeg = xF1.toNatClampNeg + k := tN (by have e1 : (xF1 + nI k).toInt = xF1.toInt + (k : Int) := iAdd rfl hk (by omega) (by omega); have e2 := xN (x := xF1) (by omega); omega)
        refine ih (k + 1) (by omega) (by omega) (fun h => k0 (fun j q1 q2 => ?_)) (fun h => k1 (fun q => h (fun j q1 q2 => q j (by omega) q2)))
        rcases Nat.eq_or_lt_of_le q1 with e9 | e9
        · subst e9; rw [hix, hkc] at h13; exact ⟨fun q => by first | assumption | (exfalso; omega), fun q => by first | assumption | (exfalso; omega)⟩
        · exact h j e9 q2
      show pm_WP 59 (109, [(6, .int (tyM dMy dPm i_m (nI k).toNatClampNeg ph)), (5, .int (f_q (xF1 + (nI k) : Int32).toNatClampNeg)), (4, .int (nI k)), (0, .ref 10), (1, .ref (m + 50)), (2, .int ph)], [.int 0], hq g (hc1 xTc xFc xRc xVc xLr xFl) (hc2 xTn) (hc3 xPa) (hc4 xUp) (hc5 xMn xSt xAb xVa) (hc6 xAl) (hc7 xHa) (hc8 xNm) (hc9 xBy xBs) (hc10 (.ref (q + 50)) xF1 xT1 xP1 xD1) (hc11 xA2 xF2 xT2 xP2 xD2) (hc12 xTl) (hc13 xKi) (hc14 xAm) (hc15 xPl) (hc16 xCs xCo xCa) (hc17 xGo) (hc18 xOl xKn) (hc19 xKe) (hc20 xTo) (hc21 xFa) (hc22 xRe) (hc23 xVl) (hc24 xAr) c25 c26 c27 c28 c29 c30 c31 c32 c33 c34 c35 c36 c37 c38 c39 c40 c41 c42 c43 c44 c45 c46 c47 c48 c49 dyn, 0, 0) _
      refine pm_brF (h := (112, [(6, .int (tyM dMy dPm i_m (nI k).toNatClampNeg ph)), (5, .int (f_q (xF1 + (nI k) : Int32).toNatClampNeg)), (4, .int (nI k)), (0, .ref 10), (1, .ref (m + 50)), (2, .int ph)], [], hq g (hc1 xTc xFc xRc xVc xLr xFl) (hc2 xTn) (hc3 xPa) (hc4 xUp) (hc5 xMn xSt xAb xVa) (hc6 xAl) (hc7 xHa) (hc8 xNm) (hc9 xBy xBs) (hc10 (.ref (q + 50)) xF1 xT1 xP1 xD1) (hc11 xA2 xF2 xT2 xP2 xD2) (hc12 xTl) (hc13 xKi) (hc14 xAm) (hc15 xPl) (hc16 xCs xCo xCa) (hc17 xGo) (hc18 xOl xKn) (hc19 xKe) (hc20 xTo) (hc21 xFa) (hc22 xRe) (hc23 xVl) (hc24 xAr) c25 c26 c27 c28 c29 c30 c31 c32 c33 c34 c35 c36 c37 c38 c39 c40 c41 c42 c43 c44 c45 c46 c47 c48 c49 dyn, 0, 0)) rfl ?_
      refine pm_go (g := (113, _, [.int 0], _, 0, 0)) rfl ?_
      have hix : (xF1 + nI k).toNatClampNeg = xF1.toNatClampNeg + k := tN (by have e1 : (xF1 + nI k).toInt = xF1.toInt + (k : Int) := iAdd rfl hk (by omega) (by omega); have e2 := xN (x := xF1) (by omega); omega)
      refine pm_ret rfl (k1 (fun q => ?_))
      rw [hix, hkc] at h14
      have q3 := q k (Nat.le_refl k) (by omega)
      first | exact absurd (q3.1 (by omega)) (by assumption) | exact absurd (q3.2 (by omega)) (by assumption)
    have h12 := qF_ne (cx := (ph).toInt) (cy := 1) rfl (by decide) h12
    refine pm_go (g := (82, _, [.ref 10], _, 0, 0)) rfl ?_
    refine pm_go (g := (85, _, [.ref 2], _, 0, 0)) rfl ?_
    refine pm_go (g := (87, _, [.int (f_q (xF1 + (nI k) : Int32).toNatClampNeg), .ref 2], _, 0, 0)) rfl ?_
    refine pm_go (g := (89, _, [.int (tyM dMy dPm i_m (nI k).toNatClampNeg ph), .int (f_q (xF1 + (nI k) : Int32).toNatClampNeg), .ref 2], _, 0, 0)) rfl ?_
    refine pm_callD (z := 87) (as := [.ref 2, .int (f_q (xF1 + (nI k) : Int32).toNatClampNeg), .int (tyM dMy dPm i_m (nI k).toNatClampNeg ph)]) (rest := []) rfl ?_
    refine f_X9_isUnder (f_q (xF1 + (nI k) : Int32).toNatClampNeg) (tyM dMy dPm i_m (nI k).toNatClampNeg ph) (fun h16 => ?_) (fun h17 => ?_)
    ·
      show pm_WP 59 (92, [(6, .int (tyM dMy dPm i_m (nI k).toNatClampNeg ph)), (5, .int (f_q (xF1 + (nI k) : Int32).toNatClampNeg)), (4, .int (nI k)), (0, .ref 10), (1, .ref (m + 50)), (2, .int ph)], [.int 1], _, 0, 0) _
      refine pm_brT (g := (114, [(6, .int (tyM dMy dPm i_m (nI k).toNatClampNeg ph)), (5, .int (f_q (xF1 + (nI k) : Int32).toNatClampNeg)), (4, .int (nI k)), (0, .ref 10), (1, .ref (m + 50)), (2, .int ph)], [], hq g (hc1 xTc xFc xRc xVc xLr xFl) (hc2 xTn) (hc3 xPa) (hc4 xUp) (hc5 xMn xSt xAb xVa) (hc6 xAl) (hc7 xHa) (hc8 xNm) (hc9 xBy xBs) (hc10 (.ref (q + 50)) xF1 xT1 xP1 xD1) (hc11 xA2 xF2 xT2 xP2 xD2) (hc12 xTl) (hc13 xKi) (hc14 xAm) (hc15 xPl) (hc16 xCs xCo xCa) (hc17 xGo) (hc18 xOl xKn) (hc19 xKe) (hc20 xTo) (hc21 xFa) (hc22 xRe) (hc23 xVl) (hc24 xAr) c25 c26 c27 c28 c29 c30 c31 c32 c33 c34 c35 c36 c37 c38 c39 c40 c41 c42 c43 c44 c45 c46 c47 c48 c49 dyn, 0, 0)) rfl ?_
      refine pm_go (g := (117, [(4, .int ((nI k) + 1)), (6, .int (tyM dMy dPm i_m (nI k).toNatClampNeg ph)), (5, .int (f_q (xF1 + (nI k) : Int32).toNatClampNeg)), (0, .ref 10), (1, .ref (m + 50)), (2, .int ph)], [], _, 0, 0)) rfl ?_
      refine pm_go (g := (44, _, [], _, 0, 0)) rfl ?_
      refine pm_sub (lv := [(4, .int ((nI k) + 1)), (0, .ref 10), (1, .ref (m + 50)), (2, .int ph)]) ?_ ⟨le_c (List.Mem.head _) (le_c (List.Mem.tail _ (List.Mem.tail _ (List.Mem.tail _ (List.Mem.head _)))) (le_c (List.Mem.tail _ (List.Mem.tail _ (List.Mem.tail _ (List.Mem.tail _ (List.Mem.head _))))) (le_c (List.Mem.tail _ (List.Mem.tail _ (List.Mem.tail _ (List.Mem.tail _ (List.Mem.tail _ (List.Mem.head _)))))) le_n))), (show ([4, 6, 5, 0, 1, 2] : List Nat).Nodup by decide)⟩
      rw [nI_1]
      have hix : (xF1 + nI k).toNatClampNeg = xF1.toNatClampNeg + k := tN (by have e1 : (xF1 + nI k).toInt = xF1.toInt + (k : Int) := iAdd rfl hk (by omega) (by omega); have e2 := xN (x := xF1) (by omega); omega)
      refine ih (k + 1) (by omega) (by omega) (fun h => k0 (fun j q1 q2 => ?_)) (fun h => k1 (fun q => h (fun j q1 q2 => q j (by omega) q2)))
      rcases Nat.eq_or_lt_of_le q1 with e9 | e9
      · subst e9; rw [hix, hkc] at h16; exact ⟨fun q => by first | assumption | (exfalso; omega), fun q => by first | assumption | (exfalso; omega)⟩
      · exact h j e9 q2
    show pm_WP 59 (92, [(6, .int (tyM dMy dPm i_m (nI k).toNatClampNeg ph)), (5, .int (f_q (xF1 + (nI k) : Int32).toNatClampNeg)), (4, .int (nI k)), (0, .ref 10), (1, .ref (m + 50)), (2, .int ph)], [.int 0], hq g (hc1 xTc xFc xRc xVc xLr xFl) (hc2 xTn) (hc3 xPa) (hc4 xUp) (hc5 xMn xSt xAb xVa) (hc6 xAl) (hc7 xHa) (hc8 xNm) (hc9 xBy xBs) (hc10 (.ref (q + 50)) xF1 xT1 xP1 xD1) (hc11 xA2 xF2 xT2 xP2 xD2) (hc12 xTl) (hc13 xKi) (hc14 xAm) (hc15 xPl) (hc16 xCs xCo xCa) (hc17 xGo) (hc18 xOl xKn) (hc19 xKe) (hc20 xTo) (hc21 xFa) (hc22 xRe) (hc23 xVl) (hc24 xAr) c25 c26 c27 c28 c29 c30 c31 c32 c33 c34 c35 c36 c37 c38 c39 c40 c41 c42 c43 c44 c45 c46 c47 c48 c49 dyn, 0, 0) _
    refine pm_brF (h := (95, [(6, .int (tyM dMy dPm i_m (nI k).toNatClampNeg ph)), (5, .int (f_q (xF1 + (nI k) : Int32).toNatClampNeg)), (4, .int (nI k)), (0, .ref 10), (1, .ref (m + 50)), (2, .int ph)], [], hq g (hc1 xTc xFc xRc xVc xLr xFl) (hc2 xTn) (hc3 xPa) (hc4 xUp) (hc5 xMn xSt xAb xVa) (hc6 xAl) (hc7 xHa) (hc8 xNm) (hc9 xBy xBs) (hc10 (.ref (q + 50)) xF1 xT1 xP1 xD1) (hc11 xA2 xF2 xT2 xP2 xD2) (hc12 xTl) (hc13 xKi) (hc14 xAm) (hc15 xPl) (hc16 xCs xCo xCa) (hc17 xGo) (hc18 xOl xKn) (hc19 xKe) (hc20 xTo) (hc21 xFa) (hc22 xRe) (hc23 xVl) (hc24 xAr) c25 c26 c27 c28 c29 c30 c31 c32 c33 c34 c35 c36 c37 c38 c39 c40 c41 c42 c43 c44 c45 c46 c47 c48 c49 dyn, 0, 0)) rfl ?_
    refine pm_go (g := (112, _, [], _, 0, 0)) rfl ?_
    refine pm_go (g := (113, _, [.int 0], _, 0, 0)) rfl ?_
    have hix : (xF1 + nI k).toNatClampNeg = xF1.toNatClampNeg + k := tN (by have e1 : (xF1 + nI k).toInt = xF1.toInt + (k : Int) := iAdd rfl hk (by omega) (by omega); have e2 := xN (x := xF1) (by omega); omega)
    refine pm_ret rfl (k1 (fun q => ?_))
    rw [hix, hkc] at h17
    have q3 := q k (Nat.le_refl k) (by omega)
    first | exact absurd (q3.1 (by omega)) (by assumption) | exact absurd (q3.2 (by omega)) (by assumption)
set_option maxRecDepth 100000 in
set_option maxHeartbeats 4000000 in
theorem f_X6_fits_10 {g c25 c26 c27 c28 c29 c30 c31 c32 c33 c34 c35 c36 c37 c38 c39 c40 c41 c42 c43 c44 c45 c46 c47 c48 c49 : pm_C} {dyn : pm_H} {dOt dNa dRe dMa dMy dPm : Nat → Int32} {xTc : Int32} {xFc : Int32} {xRc : Int32} {xVc : Int32} {xLr : Int32} {xFl : Int32} {xTn : Int32} {xMn : Int32} {xSt : Int64} {xAb : Int64} {xVa : Int64} {xBy : Value} {xBs : Int32} {xF1 : Int32} {xT1 : Int64} {xP1 : Int32} {xD1 : Value} {xA2 : Value} {xF2 : Int32} {xT2 : Int64} {xP2 : Int32} {xD2 : Value} {xTl : Int32} {xCs : Int32} {xCo : Int32} {xCa : Value} {xOl : Int32} {xKn : Int32} {xPa : Nat → Int32} {xUp : Nat → Int32} {xAl : Nat → Option Nat} {xHa : Nat → Int64} {xNm : Nat → Int64} {xKi : Nat → Int32} {xAm : Nat → Int32} {xPl : Nat → Int32} {xGo : Nat → Int32} {xKe : Nat → Int32} {xTo : Nat → Int32} {xFa : Nat → Option Nat} {xRe : Nat → Option Nat} {xVl : Nat → Option Nat} {xAr : Nat → Int32} {Q : pm_Q} (m i_m : Nat) (ph : Int32) (q n_q : Nat) (f_q : Nat → Int32) (a_m : mbF dOt dNa dRe dMa dMy dPm dyn m i_m) (a_q : isAr dyn q n_q f_q) (p0 : 0 ≤ xF1.toInt ∧ xF1.toInt ≤ 1) (k0 : (fitX xUp dMa dMy dPm n_q f_q xF1 i_m ph) → Q (some (.int 1)) (hq g (hc1 xTc xFc xRc xVc xLr xFl) (hc2 xTn) (hc3 xPa) (hc4 xUp) (hc5 xMn xSt xAb xVa) (hc6 xAl) (hc7 xHa) (hc8 xNm) (hc9 xBy xBs) (hc10 (.ref (q + 50)) xF1 xT1 xP1 xD1) (hc11 xA2 xF2 xT2 xP2 xD2) (hc12 xTl) (hc13 xKi) (hc14 xAm) (hc15 xPl) (hc16 xCs xCo xCa) (hc17 xGo) (hc18 xOl xKn) (hc19 xKe) (hc20 xTo) (hc21 xFa) (hc22 xRe) (hc23 xVl) (hc24 xAr) c25 c26 c27 c28 c29 c30 c31 c32 c33 c34 c35 c36 c37 c38 c39 c40 c41 c42 c43 c44 c45 c46 c47 c48 c49 dyn)) (k1 : (¬ (fitX xUp dMa dMy dPm n_q f_q xF1 i_m ph)) → Q (some (.int 0)) (hq g (hc1 xTc xFc xRc xVc xLr xFl) (hc2 xTn) (hc3 xPa) (hc4 xUp) (hc5 xMn xSt xAb xVa) (hc6 xAl) (hc7 xHa) (hc8 xNm) (hc9 xBy xBs) (hc10 (.ref (q + 50)) xF1 xT1 xP1 xD1) (hc11 xA2 xF2 xT2 xP2 xD2) (hc12 xTl) (hc13 xKi) (hc14 xAm) (hc15 xPl) (hc16 xCs xCo xCa) (hc17 xGo) (hc18 xOl xKn) (hc19 xKe) (hc20 xTo) (hc21 xFa) (hc22 xRe) (hc23 xVl) (hc24 xAr) c25 c26 c27 c28 c29 c30 c31 c32 c33 c34 c35 c36 c37 c38 c39 c40 c41 c42 c43 c44 c45 c46 c47 c48 c49 dyn)) : pm_WP 59 (0, [(0, .ref 10), (1, .ref (m + 50)), (2, .int ph)], [], hq g (hc1 xTc xFc xRc xVc xLr xFl) (hc2 xTn) (hc3 xPa) (hc4 xUp) (hc5 xMn xSt xAb xVa) (hc6 xAl) (hc7 xHa) (hc8 xNm) (hc9 xBy xBs) (hc10 (.ref (q + 50)) xF1 xT1 xP1 xD1) (hc11 xA2 xF2 xT2 xP2 xD2) (hc12 xTl) (hc13 xKi) (hc14 xAm) (hc15 xPl) (hc16 xCs xCo xCa) (hc17 xGo) (hc18 xOl xKn) (hc19 xKe) (hc20 xTo) (hc21 xFa) (hc22 xRe) (hc23 xVl) (hc24 xAr) c25 c26 c27 c28 c29 c30 c31 c32 c33 c34 c35 c36 c37 c38 c39 c40 c41 c42 c43 c44 c45 c46 c47 c48 c49 dyn, 0, 0) Q := by
  obtain ⟨pw1, h2, h3, h4⟩ := id a_m
  obtain ⟨h5, h6⟩ := id a_q
  refine pm_go (g := (1, [(0, .ref 10), (1, .ref (m + 50)), (2, .int ph)], [.ref (m + 50)], hq g (hc1 xTc xFc xRc xVc xLr xFl) (hc2 xTn) (hc3 xPa) (hc4 xUp) (hc5 xMn xSt xAb xVa) (hc6 xAl) (hc7 xHa) (hc8 xNm) (hc9 xBy xBs) (hc10 (.ref (q + 50)) xF1 xT1 xP1 xD1) (hc11 xA2 xF2 xT2 xP2 xD2) (hc12 xTl) (hc13 xKi) (hc14 xAm) (hc15 xPl) (hc16 xCs xCo xCa) (hc17 xGo) (hc18 xOl xKn) (hc19 xKe) (hc20 xTo) (hc21 xFa) (hc22 xRe) (hc23 xVl) (hc24 xAr) c25 c26 c27 c28 c29 c30 c31 c32 c33 c34 c35 c36 c37 c38 c39 c40 c41 c42 c43 c44 c45 c46 c47 c48 c49 dyn, 0, 0)) rfl ?_
  refine pm_gfD rfl (hq_at.trans h2) rfl rfl ?_
  show pm_WP 59 (4, [(0, .ref 10), (1, .ref (m + 50)), (2, .int ph)], [.ref (pw1 + 50)], hq g (hc1 xTc xFc xRc xVc xLr xFl) (hc2 xTn) (hc3 xPa) (hc4 xUp) (hc5 xMn xSt xAb xVa) (hc6 xAl) (hc7 xHa) (hc8 xNm) (hc9 xBy xBs) (hc10 (.ref (q + 50)) xF1 xT1 xP1 xD1) (hc11 xA2 xF2 xT2 xP2 xD2) (hc12 xTl) (hc13 xKi) (hc14 xAm) (hc15 xPl) (hc16 xCs xCo xCa) (hc17 xGo) (hc18 xOl xKn) (hc19 xKe) (hc20 xTo) (hc21 xFa) (hc22 xRe) (hc23 xVl) (hc24 xAr) c25 c26 c27 c28 c29 c30 c31 c32 c33 c34 c35 c36 c37 c38 c39 c40 c41 c42 c43 c44 c45 c46 c47 c48 c49 dyn, 0, 0) _
  refine pm_alD rfl (hq_at.trans h3) ?_
  show pm_WP 59 (5, [(0, .ref 10), (1, .ref (m + 50)), (2, .int ph)], [.int (nI ((dMy i_m).toNatClampNeg))], hq g (hc1 xTc xFc xRc xVc xLr xFl) (hc2 xTn) (hc3 xPa) (hc4 xUp) (hc5 xMn xSt xAb xVa) (hc6 xAl) (hc7 xHa) (hc8 xNm) (hc9 xBy xBs) (hc10 (.ref (q + 50)) xF1 xT1 xP1 xD1) (hc11 xA2 xF2 xT2 xP2 xD2) (hc12 xTl) (hc13 xKi) (hc14 xAm) (hc15 xPl) (hc16 xCs xCo xCa) (hc17 xGo) (hc18 xOl xKn) (hc19 xKe) (hc20 xTo) (hc21 xFa) (hc22 xRe) (hc23 xVl) (hc24 xAr) c25 c26 c27 c28 c29 c30 c31 c32 c33 c34 c35 c36 c37 c38 c39 c40 c41 c42 c43 c44 c45 c46 c47 c48 c49 dyn, 0, 0) _
  have h7 := nI_toInt (n := (dMy i_m).toNatClampNeg) (by omega)
  refine pm_go (g := (6, [(3, .int (nI ((dMy i_m).toNatClampNeg))), (0, .ref 10), (1, .ref (m + 50)), (2, .int ph)], [], _, 0, 0)) rfl ?_
  refine pm_go (g := (7, _, [.int ph], _, 0, 0)) rfl ?_
  refine pm_go (g := (8, _, [.int 3, .int ph], _, 0, 0)) rfl ?_
  refine pm_if2 (g := (31, [(3, .int (nI ((dMy i_m).toNatClampNeg))), (0, .ref 10), (1, .ref (m + 50)), (2, .int ph)], [], hq g (hc1 xTc xFc xRc xVc xLr xFl) (hc2 xTn) (hc3 xPa) (hc4 xUp) (hc5 xMn xSt xAb xVa) (hc6 xAl) (hc7 xHa) (hc8 xNm) (hc9 xBy xBs) (hc10 (.ref (q + 50)) xF1 xT1 xP1 xD1) (hc11 xA2 xF2 xT2 xP2 xD2) (hc12 xTl) (hc13 xKi) (hc14 xAm) (hc15 xPl) (hc16 xCs xCo xCa) (hc17 xGo) (hc18 xOl xKn) (hc19 xKe) (hc20 xTo) (hc21 xFa) (hc22 xRe) (hc23 xVl) (hc24 xAr) c25 c26 c27 c28 c29 c30 c31 c32 c33 c34 c35 c36 c37 c38 c39 c40 c41 c42 c43 c44 c45 c46 c47 c48 c49 dyn, 0, 0)) (h := (11, [(3, .int (nI ((dMy i_m).toNatClampNeg))), (0, .ref 10), (1, .ref (m + 50)), (2, .int ph)], [], hq g (hc1 xTc xFc xRc xVc xLr xFl) (hc2 xTn) (hc3 xPa) (hc4 xUp) (hc5 xMn xSt xAb xVa) (hc6 xAl) (hc7 xHa) (hc8 xNm) (hc9 xBy xBs) (hc10 (.ref (q + 50)) xF1 xT1 xP1 xD1) (hc11 xA2 xF2 xT2 xP2 xD2) (hc12 xTl) (hc13 xKi) (hc14 xAm) (hc15 xPl) (hc16 xCs xCo xCa) (hc17 xGo) (hc18 xOl xKn) (hc19 xKe) (hc20 xTo) (hc21 xFa) (hc22 xRe) (hc23 xVl) (hc24 xAr) c25 c26 c27 c28 c29 c30 c31 c32 c33 c34 c35 c36 c37 c38 c39 c40 c41 c42 c43 c44 c45 c46 c47 c48 c49 dyn, 0, 0)) rfl (fun h8 => ?_) (fun h8 => ?_)
  ·
    have h8 := qT_ne (cx := (ph).toInt) (cy := 3) rfl (by decide) h8
    refine pm_go (g := (32, _, [.int (nI ((dMy i_m).toNatClampNeg))], _, 0, 0)) rfl ?_
    refine pm_go (g := (33, _, [.ref 10, .int (nI ((dMy i_m).toNatClampNeg))], _, 0, 0)) rfl ?_
    refine pm_callD (z := 57) (as := [.ref 10]) (rest := [.int (nI ((dMy i_m).toNatClampNeg))]) rfl ?_
    refine f_X6_argumentCount_10 q n_q f_q ⟨h5, by omega⟩ (by omega) (fun v9_r9 h9 => ?_)
    show pm_WP 59 (36, [(3, .int (nI ((dMy i_m).toNatClampNeg))), (0, .ref 10), (1, .ref (m + 50)), (2, .int ph)], [.int v9_r9, .int (nI ((dMy i_m).toNatClampNeg))], _, 0, 0) _
    refine pm_if2 (g := (41, [(3, .int (nI ((dMy i_m).toNatClampNeg))), (0, .ref 10), (1, .ref (m + 50)), (2, .int ph)], [], hq g (hc1 xTc xFc xRc xVc xLr xFl) (hc2 xTn) (hc3 xPa) (hc4 xUp) (hc5 xMn xSt xAb xVa) (hc6 xAl) (hc7 xHa) (hc8 xNm) (hc9 xBy xBs) (hc10 (.ref (q + 50)) xF1 xT1 xP1 xD1) (hc11 xA2 xF2 xT2 xP2 xD2) (hc12 xTl) (hc13 xKi) (hc14 xAm) (hc15 xPl) (hc16 xCs xCo xCa) (hc17 xGo) (hc18 xOl xKn) (hc19 xKe) (hc20 xTo) (hc21 xFa) (hc22 xRe) (hc23 xVl) (hc24 xAr) c25 c26 c27 c28 c29 c30 c31 c32 c33 c34 c35 c36 c37 c38 c39 c40 c41 c42 c43 c44 c45 c46 c47 c48 c49 dyn, 0, 0)) (h := (39, [(3, .int (nI ((dMy i_m).toNatClampNeg))), (0, .ref 10), (1, .ref (m + 50)), (2, .int ph)], [], hq g (hc1 xTc xFc xRc xVc xLr xFl) (hc2 xTn) (hc3 xPa) (hc4 xUp) (hc5 xMn xSt xAb xVa) (hc6 xAl) (hc7 xHa) (hc8 xNm) (hc9 xBy xBs) (hc10 (.ref (q + 50)) xF1 xT1 xP1 xD1) (hc11 xA2 xF2 xT2 xP2 xD2) (hc12 xTl) (hc13 xKi) (hc14 xAm) (hc15 xPl) (hc16 xCs xCo xCa) (hc17 xGo) (hc18 xOl xKn) (hc19 xKe) (hc20 xTo) (hc21 xFa) (hc22 xRe) (hc23 xVl) (hc24 xAr) c25 c26 c27 c28 c29 c30 c31 c32 c33 c34 c35 c36 c37 c38 c39 c40 c41 c42 c43 c44 c45 c46 c47 c48 c49 dyn, 0, 0)) rfl (fun h11 => ?_) (fun h11 => ?_)
    ·
      have h11 := qT_eq (cx := (nI ((dMy i_m).toNatClampNeg)).toInt) (cy := (v9_r9).toInt) rfl rfl h11
      refine pm_go (g := (42, _, [.int 0], _, 0, 0)) rfl ?_
      refine pm_go (g := (44, [(4, .int 0), (3, .int (nI ((dMy i_m).toNatClampNeg))), (0, .ref 10), (1, .ref (m + 50)), (2, .int ph)], [], _, 0, 0)) rfl ?_
      refine pm_sub (lv := [(4, .int 0), (0, .ref 10), (1, .ref (m + 50)), (2, .int ph)]) ?_ ⟨le_c (List.Mem.head _) (le_c (List.Mem.tail _ (List.Mem.tail _ (List.Mem.head _))) (le_c (List.Mem.tail _ (List.Mem.tail _ (List.Mem.tail _ (List.Mem.head _)))) (le_c (List.Mem.tail _ (List.Mem.tail _ (List.Mem.tail _ (List.Mem.tail _ (List.Mem.head _))))) le_n))), (show ([4, 3, 0, 1, 2] : List Nat).Nodup by decide)⟩
      exact f_X6_fits_10_l ph m i_m q n_q f_q a_m a_q p0 4 0 (by omega) (by omega) (fun h => k0 ⟨by omega, h⟩) (fun h => k1 (fun q => h q.2))
    have h11 := qF_eq (cx := (nI ((dMy i_m).toNatClampNeg)).toInt) (cy := (v9_r9).toInt) rfl rfl h11
    refine pm_go (g := (40, [(3, .int (nI ((dMy i_m).toNatClampNeg))), (0, .ref 10), (1, .ref (m + 50)), (2, .int ph)], [.int 0], _, 0, 0)) rfl ?_
    exact pm_ret rfl (k1 (fun q => by have q2 := q.1; omega))
  have h8 := qF_ne (cx := (ph).toInt) (cy := 3) rfl (by decide) h8
  refine pm_go (g := (12, _, [.ref (m + 50)], _, 0, 0)) rfl ?_
  refine pm_ivD (r := m + 50) (as := []) (rest := []) rfl rfl (hq_at.trans h2) rfl ?_
  refine f_X3_isVaried m i_m a_m (fun h12 => ?_) (fun h13 => ?_)
  ·
    show pm_WP 59 (15, [(3, .int (nI ((dMy i_m).toNatClampNeg))), (0, .ref 10), (1, .ref (m + 50)), (2, .int ph)], [.int 1], _, 0, 0) _
    refine pm_brF (h := (18, [(3, .int (nI ((dMy i_m).toNatClampNeg))), (0, .ref 10), (1, .ref (m + 50)), (2, .int ph)], [], hq g (hc1 xTc xFc xRc xVc xLr xFl) (hc2 xTn) (hc3 xPa) (hc4 xUp) (hc5 xMn xSt xAb xVa) (hc6 xAl) (hc7 xHa) (hc8 xNm) (hc9 xBy xBs) (hc10 (.ref (q + 50)) xF1 xT1 xP1 xD1) (hc11 xA2 xF2 xT2 xP2 xD2) (hc12 xTl) (hc13 xKi) (hc14 xAm) (hc15 xPl) (hc16 xCs xCo xCa) (hc17 xGo) (hc18 xOl xKn) (hc19 xKe) (hc20 xTo) (hc21 xFa) (hc22 xRe) (hc23 xVl) (hc24 xAr) c25 c26 c27 c28 c29 c30 c31 c32 c33 c34 c35 c36 c37 c38 c39 c40 c41 c42 c43 c44 c45 c46 c47 c48 c49 dyn, 0, 0)) rfl ?_
    refine pm_go (g := (19, _, [.int (nI ((dMy i_m).toNatClampNeg))], _, 0, 0)) rfl ?_
    refine pm_go (g := (20, _, [.ref 10, .int (nI ((dMy i_m).toNatClampNeg))], _, 0, 0)) rfl ?_
    refine pm_callD (z := 57) (as := [.ref 10]) (rest := [.int (nI ((dMy i_m).toNatClampNeg))]) rfl ?_
    refine f_X6_argumentCount_10 q n_q f_q ⟨h5, by omega⟩ (by omega) (fun v15_r9 h15 => ?_)
    show pm_WP 59 (23, [(3, .int (nI ((dMy i_m).toNatClampNeg))), (0, .ref 10), (1, .ref (m + 50)), (2, .int ph)], [.int v15_r9, .int (nI ((dMy i_m).toNatClampNeg))], _, 0, 0) _
    refine pm_go (g := (24, _, [.int 1, .int v15_r9, .int (nI ((dMy i_m).toNatClampNeg))], _, 0, 0)) rfl ?_
    refine pm_go (g := (25, _, [.int (v15_r9 + 1), .int (nI ((dMy i_m).toNatClampNeg))], _, 0, 0)) rfl ?_
    try have h17 : (v15_r9 + 1).toInt = (v15_r9).toInt + 1 := iAdd (x := (v15_r9).toInt) (y := 1) rfl (by decide) (by omega) (by omega)
    refine pm_if2 (g := (41, [(3, .int (nI ((dMy i_m).toNatClampNeg))), (0, .ref 10), (1, .ref (m + 50)), (2, .int ph)], [], hq g (hc1 xTc xFc xRc xVc xLr xFl) (hc2 xTn) (hc3 xPa) (hc4 xUp) (hc5 xMn xSt xAb xVa) (hc6 xAl) (hc7 xHa) (hc8 xNm) (hc9 xBy xBs) (hc10 (.ref (q + 50)) xF1 xT1 xP1 xD1) (hc11 xA2 xF2 xT2 xP2 xD2) (hc12 xTl) (hc13 xKi) (hc14 xAm) (hc15 xPl) (hc16 xCs xCo xCa) (hc17 xGo) (hc18 xOl xKn) (hc19 xKe) (hc20 xTo) (hc21 xFa) (hc22 xRe) (hc23 xVl) (hc24 xAr) c25 c26 c27 c28 c29 c30 c31 c32 c33 c34 c35 c36 c37 c38 c39 c40 c41 c42 c43 c44 c45 c46 c47 c48 c49 dyn, 0, 0)) (h := (28, [(3, .int (nI ((dMy i_m).toNatClampNeg))), (0, .ref 10), (1, .ref (m + 50)), (2, .int ph)], [], hq g (hc1 xTc xFc xRc xVc xLr xFl) (hc2 xTn) (hc3 xPa) (hc4 xUp) (hc5 xMn xSt xAb xVa) (hc6 xAl) (hc7 xHa) (hc8 xNm) (hc9 xBy xBs) (hc10 (.ref (q + 50)) xF1 xT1 xP1 xD1) (hc11 xA2 xF2 xT2 xP2 xD2) (hc12 xTl) (hc13 xKi) (hc14 xAm) (hc15 xPl) (hc16 xCs xCo xCa) (hc17 xGo) (hc18 xOl xKn) (hc19 xKe) (hc20 xTo) (hc21 xFa) (hc22 xRe) (hc23 xVl) (hc24 xAr) c25 c26 c27 c28 c29 c30 c31 c32 c33 c34 c35 c36 c37 c38 c39 c40 c41 c42 c43 c44 c45 c46 c47 c48 c49 dyn, 0, 0)) rfl (fun h18 => ?_) (fun h18 => ?_)
    ·
      have h18 := qT_le (cx := (nI ((dMy i_m).toNatClampNeg)).toInt) (cy := (v15_r9 + 1).toInt) rfl rfl h18
      refine pm_go (g := (42, _, [.int 0], _, 0, 0)) rfl ?_
      refine pm_go (g := (44, [(4, .int 0), (3, .int (nI ((dMy i_m).toNatClampNeg))), (0, .ref 10), (1, .ref (m + 50)), (2, .int ph)], [], _, 0, 0)) rfl ?_
      refine pm_sub (lv := [(4, .int 0), (0, .ref 10), (1, .ref (m + 50)), (2, .int ph)]) ?_ ⟨le_c (List.Mem.head _) (le_c (List.Mem.tail _ (List.Mem.tail _ (List.Mem.head _))) (le_c (List.Mem.tail _ (List.Mem.tail _ (List.Mem.tail _ (List.Mem.head _)))) (le_c (List.Mem.tail _ (List.Mem.tail _ (List.Mem.tail _ (List.Mem.tail _ (List.Mem.head _))))) le_n))), (show ([4, 3, 0, 1, 2] : List Nat).Nodup by decide)⟩
      exact f_X6_fits_10_l ph m i_m q n_q f_q a_m a_q p0 4 0 (by omega) (by omega) (fun h => k0 ⟨by omega, h⟩) (fun h => k1 (fun q => h q.2))
    have h18 := qF_le (cx := (nI ((dMy i_m).toNatClampNeg)).toInt) (cy := (v15_r9 + 1).toInt) rfl rfl h18
    refine pm_go (g := (39, [(3, .int (nI ((dMy i_m).toNatClampNeg))), (0, .ref 10), (1, .ref (m + 50)), (2, .int ph)], [], _, 0, 0)) rfl ?_
    refine pm_go (g := (40, _, [.int 0], _, 0, 0)) rfl ?_
    exact pm_ret rfl (k1 (fun q => by have q2 := q.1; omega))
  show pm_WP 59 (15, [(3, .int (nI ((dMy i_m).toNatClampNeg))), (0, .ref 10), (1, .ref (m + 50)), (2, .int ph)], [.int 0], hq g (hc1 xTc xFc xRc xVc xLr xFl) (hc2 xTn) (hc3 xPa) (hc4 xUp) (hc5 xMn xSt xAb xVa) (hc6 xAl) (hc7 xHa) (hc8 xNm) (hc9 xBy xBs) (hc10 (.ref (q + 50)) xF1 xT1 xP1 xD1) (hc11 xA2 xF2 xT2 xP2 xD2) (hc12 xTl) (hc13 xKi) (hc14 xAm) (hc15 xPl) (hc16 xCs xCo xCa) (hc17 xGo) (hc18 xOl xKn) (hc19 xKe) (hc20 xTo) (hc21 xFa) (hc22 xRe) (hc23 xVl) (hc24 xAr) c25 c26 c27 c28 c29 c30 c31 c32 c33 c34 c35 c36 c37 c38 c39 c40 c41 c42 c43 c44 c45 c46 c47 c48 c49 dyn, 0, 0) _
  refine pm_brT (g := (39, [(3, .int (nI ((dMy i_m).toNatClampNeg))), (0, .ref 10), (1, .ref (m + 50)), (2, .int ph)], [], hq g (hc1 xTc xFc xRc xVc xLr xFl) (hc2 xTn) (hc3 xPa) (hc4 xUp) (hc5 xMn xSt xAb xVa) (hc6 xAl) (hc7 xHa) (hc8 xNm) (hc9 xBy xBs) (hc10 (.ref (q + 50)) xF1 xT1 xP1 xD1) (hc11 xA2 xF2 xT2 xP2 xD2) (hc12 xTl) (hc13 xKi) (hc14 xAm) (hc15 xPl) (hc16 xCs xCo xCa) (hc17 xGo) (hc18 xOl xKn) (hc19 xKe) (hc20 xTo) (hc21 xFa) (hc22 xRe) (hc23 xVl) (hc24 xAr) c25 c26 c27 c28 c29 c30 c31 c32 c33 c34 c35 c36 c37 c38 c39 c40 c41 c42 c43 c44 c45 c46 c47 c48 c49 dyn, 0, 0)) rfl ?_
  refine pm_go (g := (40, _, [.int 0], _, 0, 0)) rfl ?_
  exact pm_ret rfl (k1 (fun q => by have q2 := q.1; omega))
set_option maxRecDepth 100000 in
set_option maxHeartbeats 4000000 in
theorem f_X6_gatherFit_10_l {g c25 c26 c27 c28 c29 c30 c31 c32 c33 c34 c35 c36 c37 c38 c39 c40 c41 c42 c43 c44 c45 c46 c47 c48 c49 : pm_C} {dyn : pm_H} {dOt dNa dRe dMa dMy dPm : Nat → Int32} {xTc : Int32} {xFc : Int32} {xRc : Int32} {xVc : Int32} {xLr : Int32} {xFl : Int32} {xTn : Int32} {xMn : Int32} {xSt : Int64} {xAb : Int64} {xVa : Int64} {xBy : Value} {xBs : Int32} {xF1 : Int32} {xT1 : Int64} {xP1 : Int32} {xD1 : Value} {xA2 : Value} {xF2 : Int32} {xT2 : Int64} {xP2 : Int32} {xD2 : Value} {xTl : Int32} {xCs : Int32} {xCo : Int32} {xCa : Value} {xOl : Int32} {xKn : Int32} {xPa : Nat → Int32} {xUp : Nat → Int32} {xAl : Nat → Option Nat} {xHa : Nat → Int64} {xNm : Nat → Int64} {xKi : Nat → Int32} {xAm : Nat → Int32} {xPl : Nat → Int32} {xGo : Nat → Int32} {xKe : Nat → Int32} {xTo : Nat → Int32} {xFa : Nat → Option Nat} {xRe : Nat → Option Nat} {xVl : Nat → Option Nat} {xAr : Nat → Int32} {Q : pm_Q} (s : Int64) (ph : Int32) (q n_q : Nat) (f_q : Nat → Int32) (a_q : isAr dyn q n_q f_q) (p0 : 0 ≤ xF1.toInt ∧ xF1.toInt ≤ 1) (p1 : 0 ≤ xMn.toInt ∧ xMn.toInt ≤ 40) (p2 : alF dOt dNa dRe dMa dMy dPm xMn xAl dyn) : ∀ (n k : Nat) (t0 : Int64) (y0 : Int32), (k ≤ 40) → (40 < k + n) → (∀ (t9 : Int64) (p9 : Int32), gfX (fun x => bl s x = true ∧ fitX xUp dMa dMy dPm n_q f_q xF1 x ph) xMn k t0 t9 y0 p9 ph → Q none (hq g (hc1 xTc xFc xRc xVc xLr xFl) (hc2 xTn) (hc3 xPa) (hc4 xUp) (hc5 xMn xSt xAb xVa) (hc6 xAl) (hc7 xHa) (hc8 xNm) (hc9 xBy xBs) (hc10 (.ref (q + 50)) xF1 t9 p9 xD1) (hc11 xA2 xF2 xT2 xP2 xD2) (hc12 xTl) (hc13 xKi) (hc14 xAm) (hc15 xPl) (hc16 xCs xCo xCa) (hc17 xGo) (hc18 xOl xKn) (hc19 xKe) (hc20 xTo) (hc21 xFa) (hc22 xRe) (hc23 xVl) (hc24 xAr) c25 c26 c27 c28 c29 c30 c31 c32 c33 c34 c35 c36 c37 c38 c39 c40 c41 c42 c43 c44 c45 c46 c47 c48 c49 dyn)) → pm_WP 58 (3, [(4, .int (nI k)), (0, .ref 10), (1, .long s), (3, .int ph)], [], hq g (hc1 xTc xFc xRc xVc xLr xFl) (hc2 xTn) (hc3 xPa) (hc4 xUp) (hc5 xMn xSt xAb xVa) (hc6 xAl) (hc7 xHa) (hc8 xNm) (hc9 xBy xBs) (hc10 (.ref (q + 50)) xF1 t0 y0 xD1) (hc11 xA2 xF2 xT2 xP2 xD2) (hc12 xTl) (hc13 xKi) (hc14 xAm) (hc15 xPl) (hc16 xCs xCo xCa) (hc17 xGo) (hc18 xOl xKn) (hc19 xKe) (hc20 xTo) (hc21 xFa) (hc22 xRe) (hc23 xVl) (hc24 xAr) c25 c26 c27 c28 c29 c30 c31 c32 c33 c34 c35 c36 c37 c38 c39 c40 c41 c42 c43 c44 c45 c46 c47 c48 c49 dyn, 0, 0) Q := by
  intro n
  induction n with
  | zero =>
    intro k t0 y0 g1 g2 k0
    exfalso; omega
  | succ n ih =>
    intro k t0 y0 g1 g2 k0
    have hk := nI_toInt (n := k) (by omega)
    have hkc : (nI k).toNatClampNeg = k := nI_clamp (by omega)
    obtain ⟨h1, h2⟩ := id a_q
    refine pm_go (g := (5, [(4, .int (nI k)), (0, .ref 10), (1, .long s), (3, .int ph)], [.int (nI k)], hq g (hc1 xTc xFc xRc xVc xLr xFl) (hc2 xTn) (hc3 xPa) (hc4 xUp) (hc5 xMn xSt xAb xVa) (hc6 xAl) (hc7 xHa) (hc8 xNm) (hc9 xBy xBs) (hc10 (.ref (q + 50)) xF1 t0 y0 xD1) (hc11 xA2 xF2 xT2 xP2 xD2) (hc12 xTl) (hc13 xKi) (hc14 xAm) (hc15 xPl) (hc16 xCs xCo xCa) (hc17 xGo) (hc18 xOl xKn) (hc19 xKe) (hc20 xTo) (hc21 xFa) (hc22 xRe) (hc23 xVl) (hc24 xAr) c25 c26 c27 c28 c29 c30 c31 c32 c33 c34 c35 c36 c37 c38 c39 c40 c41 c42 c43 c44 c45 c46 c47 c48 c49 dyn, 0, 0)) rfl ?_
    refine pm_go (g := (6, _, [.ref 10, .int (nI k)], _, 0, 0)) rfl ?_
    refine pm_go (g := (9, _, [.ref 5, .int (nI k)], _, 0, 0)) rfl ?_
    refine pm_callD (z := 33) (as := [.ref 5]) (rest := [.int (nI k)]) rfl ?_
    refine f_X4_size  ?_
    show pm_WP 58 (12, [(4, .int (nI k)), (0, .ref 10), (1, .long s), (3, .int ph)], [.int xMn, .int (nI k)], _, 0, 0) _
    refine pm_if2 (g := (65, [(4, .int (nI k)), (0, .ref 10), (1, .long s), (3, .int ph)], [], hq g (hc1 xTc xFc xRc xVc xLr xFl) (hc2 xTn) (hc3 xPa) (hc4 xUp) (hc5 xMn xSt xAb xVa) (hc6 xAl) (hc7 xHa) (hc8 xNm) (hc9 xBy xBs) (hc10 (.ref (q + 50)) xF1 t0 y0 xD1) (hc11 xA2 xF2 xT2 xP2 xD2) (hc12 xTl) (hc13 xKi) (hc14 xAm) (hc15 xPl) (hc16 xCs xCo xCa) (hc17 xGo) (hc18 xOl xKn) (hc19 xKe) (hc20 xTo) (hc21 xFa) (hc22 xRe) (hc23 xVl) (hc24 xAr) c25 c26 c27 c28 c29 c30 c31 c32 c33 c34 c35 c36 c37 c38 c39 c40 c41 c42 c43 c44 c45 c46 c47 c48 c49 dyn, 0, 0)) (h := (15, [(4, .int (nI k)), (0, .ref 10), (1, .long s), (3, .int ph)], [], hq g (hc1 xTc xFc xRc xVc xLr xFl) (hc2 xTn) (hc3 xPa) (hc4 xUp) (hc5 xMn xSt xAb xVa) (hc6 xAl) (hc7 xHa) (hc8 xNm) (hc9 xBy xBs) (hc10 (.ref (q + 50)) xF1 t0 y0 xD1) (hc11 xA2 xF2 xT2 xP2 xD2) (hc12 xTl) (hc13 xKi) (hc14 xAm) (hc15 xPl) (hc16 xCs xCo xCa) (hc17 xGo) (hc18 xOl xKn) (hc19 xKe) (hc20 xTo) (hc21 xFa) (hc22 xRe) (hc23 xVl) (hc24 xAr) c25 c26 c27 c28 c29 c30 c31 c32 c33 c34 c35 c36 c37 c38 c39 c40 c41 c42 c43 c44 c45 c46 c47 c48 c49 dyn, 0, 0)) rfl (fun h4 => ?_) (fun h4 => ?_)
    ·
      have h4 := qT_ge (cx := (nI k).toInt) (cy := (xMn).toInt) rfl rfl h4
      exact pm_ret rfl (k0 _ _ (gf_e (by omega)))
    have h4 := qF_ge (cx := (nI k).toInt) (cy := (xMn).toInt) rfl rfl h4
    refine pm_go (g := (16, _, [.long s], _, 0, 0)) rfl ?_
    refine pm_go (g := (18, _, [.int (nI k), .long s], _, 0, 0)) rfl ?_
    refine pm_callD (z := 50) (as := [.long s, .int (nI k)]) (rest := []) rfl ?_
    refine f_X4_isIn s (nI k) (by omega) (fun h5 => ?_) (fun h6 => ?_)
    ·
      show pm_WP 58 (21, [(4, .int (nI k)), (0, .ref 10), (1, .long s), (3, .int ph)], [.int 1], _, 0, 0) _
      rw [hkc] at h5
      refine pm_brF (h := (24, [(4, .int (nI k)), (0, .ref 10), (1, .long s), (3, .int ph)], [], hq g (hc1 xTc xFc xRc xVc xLr xFl) (hc2 xTn) (hc3 xPa) (hc4 xUp) (hc5 xMn xSt xAb xVa) (hc6 xAl) (hc7 xHa) (hc8 xNm) (hc9 xBy xBs) (hc10 (.ref (q + 50)) xF1 t0 y0 xD1) (hc11 xA2 xF2 xT2 xP2 xD2) (hc12 xTl) (hc13 xKi) (hc14 xAm) (hc15 xPl) (hc16 xCs xCo xCa) (hc17 xGo) (hc18 xOl xKn) (hc19 xKe) (hc20 xTo) (hc21 xFa) (hc22 xRe) (hc23 xVl) (hc24 xAr) c25 c26 c27 c28 c29 c30 c31 c32 c33 c34 c35 c36 c37 c38 c39 c40 c41 c42 c43 c44 c45 c46 c47 c48 c49 dyn, 0, 0)) rfl ?_
      refine pm_go (g := (25, _, [.ref 10], _, 0, 0)) rfl ?_
      refine pm_go (g := (26, _, [.ref 10, .ref 10], _, 0, 0)) rfl ?_
      refine pm_go (g := (29, _, [.ref 5, .ref 10], _, 0, 0)) rfl ?_
      refine pm_go (g := (31, _, [.int (nI k), .ref 5, .ref 10], _, 0, 0)) rfl ?_
      refine pm_callD (z := 45) (as := [.ref 5, .int (nI k)]) (rest := [.ref 10]) rfl ?_
      refine f_X4_at (nI k) (by omega) (by first | assumption | rfl) (by omega) (fun v8_j9 h8 => ?_)
      show pm_WP 58 (34, [(4, .int (nI k)), (0, .ref 10), (1, .long s), (3, .int ph)], [.ref (v8_j9 + 50), .ref 10], _, 0, 0) _
      rw [nI_c (by omega)] at h8
      obtain ⟨pw10, h11, h12, h13⟩ := id h8
      refine pm_go (g := (35, _, [.int ph, .ref (v8_j9 + 50), .ref 10], _, 0, 0)) rfl ?_
      refine pm_callD (z := 59) (as := [.ref 10, .ref (v8_j9 + 50), .int ph]) (rest := []) rfl ?_
      refine f_X6_fits_10 v8_j9 k ph q n_q f_q h8 ⟨h1, by omega⟩ (by omega) (fun h14 => ?_) (fun h15 => ?_)
      ·
        show pm_WP 58 (38, [(4, .int (nI k)), (0, .ref 10), (1, .long s), (3, .int ph)], [.int 1], _, 0, 0) _
        refine pm_brF (h := (41, [(4, .int (nI k)), (0, .ref 10), (1, .long s), (3, .int ph)], [], hq g (hc1 xTc xFc xRc xVc xLr xFl) (hc2 xTn) (hc3 xPa) (hc4 xUp) (hc5 xMn xSt xAb xVa) (hc6 xAl) (hc7 xHa) (hc8 xNm) (hc9 xBy xBs) (hc10 (.ref (q + 50)) xF1 t0 y0 xD1) (hc11 xA2 xF2 xT2 xP2 xD2) (hc12 xTl) (hc13 xKi) (hc14 xAm) (hc15 xPl) (hc16 xCs xCo xCa) (hc17 xGo) (hc18 xOl xKn) (hc19 xKe) (hc20 xTo) (hc21 xFa) (hc22 xRe) (hc23 xVl) (hc24 xAr) c25 c26 c27 c28 c29 c30 c31 c32 c33 c34 c35 c36 c37 c38 c39 c40 c41 c42 c43 c44 c45 c46 c47 c48 c49 dyn, 0, 0)) rfl ?_
        refine pm_go (g := (42, _, [.ref 10], _, 0, 0)) rfl ?_
        refine pm_go (g := (43, _, [.ref 10, .ref 10], _, 0, 0)) rfl ?_
        refine pm_go (g := (46, _, [.long t0, .ref 10], _, 0, 0)) rfl ?_
        refine pm_go (g := (47, _, [.long 1, .long t0, .ref 10], _, 0, 0)) rfl ?_
        refine pm_go (g := (49, _, [.int (nI k), .long 1, .long t0, .ref 10], _, 0, 0)) rfl ?_
        refine pm_go (g := (50, _, [.long (1 <<< ((nI k : Int32).toInt64 &&& 63)), .long t0, .ref 10], _, 0, 0)) rfl ?_
        refine pm_go (g := (51, _, [.long (t0 ||| (1 <<< ((nI k : Int32).toInt64 &&& 63))), .ref 10], _, 0, 0)) rfl ?_
        refine pm_go (g := (54, _, [], hq g (hc1 xTc xFc xRc xVc xLr xFl) (hc2 xTn) (hc3 xPa) (hc4 xUp) (hc5 xMn xSt xAb xVa) (hc6 xAl) (hc7 xHa) (hc8 xNm) (hc9 xBy xBs) (hc10 (.ref (q + 50)) xF1 (t0 ||| (1 <<< ((nI k : Int32).toInt64 &&& 63))) y0 xD1) (hc11 xA2 xF2 xT2 xP2 xD2) (hc12 xTl) (hc13 xKi) (hc14 xAm) (hc15 xPl) (hc16 xCs xCo xCa) (hc17 xGo) (hc18 xOl xKn) (hc19 xKe) (hc20 xTo) (hc21 xFa) (hc22 xRe) (hc23 xVl) (hc24 xAr) c25 c26 c27 c28 c29 c30 c31 c32 c33 c34 c35 c36 c37 c38 c39 c40 c41 c42 c43 c44 c45 c46 c47 c48 c49 dyn, 0, 0)) rfl ?_
        refine pm_go (g := (55, _, [.ref 10], _, 0, 0)) rfl ?_
        refine pm_go (g := (56, _, [.int ph, .ref 10], _, 0, 0)) rfl ?_
        refine pm_go (g := (59, _, [], hq g (hc1 xTc xFc xRc xVc xLr xFl) (hc2 xTn) (hc3 xPa) (hc4 xUp) (hc5 xMn xSt xAb xVa) (hc6 xAl) (hc7 xHa) (hc8 xNm) (hc9 xBy xBs) (hc10 (.ref (q + 50)) xF1 (t0 ||| (1 <<< ((nI k : Int32).toInt64 &&& 63))) ph xD1) (hc11 xA2 xF2 xT2 xP2 xD2) (hc12 xTl) (hc13 xKi) (hc14 xAm) (hc15 xPl) (hc16 xCs xCo xCa) (hc17 xGo) (hc18 xOl xKn) (hc19 xKe) (hc20 xTo) (hc21 xFa) (hc22 xRe) (hc23 xVl) (hc24 xAr) c25 c26 c27 c28 c29 c30 c31 c32 c33 c34 c35 c36 c37 c38 c39 c40 c41 c42 c43 c44 c45 c46 c47 c48 c49 dyn, 0, 0)) rfl ?_
        refine pm_go (g := (62, [(4, .int ((nI k) + 1)), (0, .ref 10), (1, .long s), (3, .int ph)], [], _, 0, 0)) rfl ?_
        refine pm_go (g := (3, _, [], _, 0, 0)) rfl ?_
        refine pm_sub (lv := [(4, .int ((nI k) + 1)), (0, .ref 10), (1, .long s), (3, .int ph)]) ?_ ⟨le_c (List.Mem.head _) (le_c (List.Mem.tail _ (List.Mem.head _)) (le_c (List.Mem.tail _ (List.Mem.tail _ (List.Mem.head _))) (le_c (List.Mem.tail _ (List.Mem.tail _ (List.Mem.tail _ (List.Mem.head _)))) le_n))), (show ([4, 0, 1, 3] : List Nat).Nodup by decide)⟩
        rw [nI_1]
        exact ih (k + 1) _ _ (by omega) (by omega) (fun t9 p9 q => k0 t9 p9 (gf_y (by omega) (by omega) ⟨by assumption, by assumption⟩ q))
      show pm_WP 58 (38, [(4, .int (nI k)), (0, .ref 10), (1, .long s), (3, .int ph)], [.int 0], hq g (hc1 xTc xFc xRc xVc xLr xFl) (hc2 xTn) (hc3 xPa) (hc4 xUp) (hc5 xMn xSt xAb xVa) (hc6 xAl) (hc7 xHa) (hc8 xNm) (hc9 xBy xBs) (hc10 (.ref (q + 50)) xF1 t0 y0 xD1) (hc11 xA2 xF2 xT2 xP2 xD2) (hc12 xTl) (hc13 xKi) (hc14 xAm) (hc15 xPl) (hc16 xCs xCo xCa) (hc17 xGo) (hc18 xOl xKn) (hc19 xKe) (hc20 xTo) (hc21 xFa) (hc22 xRe) (hc23 xVl) (hc24 xAr) c25 c26 c27 c28 c29 c30 c31 c32 c33 c34 c35 c36 c37 c38 c39 c40 c41 c42 c43 c44 c45 c46 c47 c48 c49 dyn, 0, 0) _
      refine pm_brT (g := (59, [(4, .int (nI k)), (0, .ref 10), (1, .long s), (3, .int ph)], [], hq g (hc1 xTc xFc xRc xVc xLr xFl) (hc2 xTn) (hc3 xPa) (hc4 xUp) (hc5 xMn xSt xAb xVa) (hc6 xAl) (hc7 xHa) (hc8 xNm) (hc9 xBy xBs) (hc10 (.ref (q + 50)) xF1 t0 y0 xD1) (hc11 xA2 xF2 xT2 xP2 xD2) (hc12 xTl) (hc13 xKi) (hc14 xAm) (hc15 xPl) (hc16 xCs xCo xCa) (hc17 xGo) (hc18 xOl xKn) (hc19 xKe) (hc20 xTo) (hc21 xFa) (hc22 xRe) (hc23 xVl) (hc24 xAr) c25 c26 c27 c28 c29 c30 c31 c32 c33 c34 c35 c36 c37 c38 c39 c40 c41 c42 c43 c44 c45 c46 c47 c48 c49 dyn, 0, 0)) rfl ?_
      refine pm_go (g := (62, [(4, .int ((nI k) + 1)), (0, .ref 10), (1, .long s), (3, .int ph)], [], _, 0, 0)) rfl ?_
      refine pm_go (g := (3, _, [], _, 0, 0)) rfl ?_
      refine pm_sub (lv := [(4, .int ((nI k) + 1)), (0, .ref 10), (1, .long s), (3, .int ph)]) ?_ ⟨le_c (List.Mem.head _) (le_c (List.Mem.tail _ (List.Mem.head _)) (le_c (List.Mem.tail _ (List.Mem.tail _ (List.Mem.head _))) (le_c (List.Mem.tail _ (List.Mem.tail _ (List.Mem.tail _ (List.Mem.head _)))) le_n))), (show ([4, 0, 1, 3] : List Nat).Nodup by decide)⟩
      rw [nI_1]
      refine ih (k + 1) _ _ (by omega) (by omega) (fun t9 p9 q => k0 t9 p9 (gf_n ?_ q))
      rintro ⟨q1, q2⟩; first | contradiction | (simp_all; done)
    show pm_WP 58 (21, [(4, .int (nI k)), (0, .ref 10), (1, .long s), (3, .int ph)], [.int 0], hq g (hc1 xTc xFc xRc xVc xLr xFl) (hc2 xTn) (hc3 xPa) (hc4 xUp) (hc5 xMn xSt xAb xVa) (hc6 xAl) (hc7 xHa) (hc8 xNm) (hc9 xBy xBs) (hc10 (.ref (q + 50)) xF1 t0 y0 xD1) (hc11 xA2 xF2 xT2 xP2 xD2) (hc12 xTl) (hc13 xKi) (hc14 xAm) (hc15 xPl) (hc16 xCs xCo xCa) (hc17 xGo) (hc18 xOl xKn) (hc19 xKe) (hc20 xTo) (hc21 xFa) (hc22 xRe) (hc23 xVl) (hc24 xAr) c25 c26 c27 c28 c29 c30 c31 c32 c33 c34 c35 c36 c37 c38 c39 c40 c41 c42 c43 c44 c45 c46 c47 c48 c49 dyn, 0, 0) _
    rw [hkc] at h6
    refine pm_brT (g := (59, [(4, .int (nI k)), (0, .ref 10), (1, .long s), (3, .int ph)], [], hq g (hc1 xTc xFc xRc xVc xLr xFl) (hc2 xTn) (hc3 xPa) (hc4 xUp) (hc5 xMn xSt xAb xVa) (hc6 xAl) (hc7 xHa) (hc8 xNm) (hc9 xBy xBs) (hc10 (.ref (q + 50)) xF1 t0 y0 xD1) (hc11 xA2 xF2 xT2 xP2 xD2) (hc12 xTl) (hc13 xKi) (hc14 xAm) (hc15 xPl) (hc16 xCs xCo xCa) (hc17 xGo) (hc18 xOl xKn) (hc19 xKe) (hc20 xTo) (hc21 xFa) (hc22 xRe) (hc23 xVl) (hc24 xAr) c25 c26 c27 c28 c29 c30 c31 c32 c33 c34 c35 c36 c37 c38 c39 c40 c41 c42 c43 c44 c45 c46 c47 c48 c49 dyn, 0, 0)) rfl ?_
    refine pm_go (g := (62, [(4, .int ((nI k) + 1)), (0, .ref 10), (1, .long s), (3, .int ph)], [], _, 0, 0)) rfl ?_
    refine pm_go (g := (3, _, [], _, 0, 0)) rfl ?_
    refine pm_sub (lv := [(4, .int ((nI k) + 1)), (0, .ref 10), (1, .long s), (3, .int ph)]) ?_ ⟨le_c (List.Mem.head _) (le_c (List.Mem.tail _ (List.Mem.head _)) (le_c (List.Mem.tail _ (List.Mem.tail _ (List.Mem.head _))) (le_c (List.Mem.tail _ (List.Mem.tail _ (List.Mem.tail _ (List.Mem.head _)))) le_n))), (show ([4, 0, 1, 3] : List Nat).Nodup by decide)⟩
    rw [nI_1]
    refine ih (k + 1) _ _ (by omega) (by omega) (fun t9 p9 q => k0 t9 p9 (gf_n ?_ q))
    rintro ⟨q1, q2⟩; first | contradiction | (simp_all; done)
set_option maxRecDepth 100000 in
set_option maxHeartbeats 4000000 in
theorem f_X6_gatherFit_10 {g c25 c26 c27 c28 c29 c30 c31 c32 c33 c34 c35 c36 c37 c38 c39 c40 c41 c42 c43 c44 c45 c46 c47 c48 c49 : pm_C} {dyn : pm_H} {dOt dNa dRe dMa dMy dPm : Nat → Int32} {xTc : Int32} {xFc : Int32} {xRc : Int32} {xVc : Int32} {xLr : Int32} {xFl : Int32} {xTn : Int32} {xMn : Int32} {xSt : Int64} {xAb : Int64} {xVa : Int64} {xBy : Value} {xBs : Int32} {xF1 : Int32} {xT1 : Int64} {xP1 : Int32} {xD1 : Value} {xA2 : Value} {xF2 : Int32} {xT2 : Int64} {xP2 : Int32} {xD2 : Value} {xTl : Int32} {xCs : Int32} {xCo : Int32} {xCa : Value} {xOl : Int32} {xKn : Int32} {xPa : Nat → Int32} {xUp : Nat → Int32} {xAl : Nat → Option Nat} {xHa : Nat → Int64} {xNm : Nat → Int64} {xKi : Nat → Int32} {xAm : Nat → Int32} {xPl : Nat → Int32} {xGo : Nat → Int32} {xKe : Nat → Int32} {xTo : Nat → Int32} {xFa : Nat → Option Nat} {xRe : Nat → Option Nat} {xVl : Nat → Option Nat} {xAr : Nat → Int32} {Q : pm_Q} (s : Int64) (ph : Int32) (q n_q : Nat) (f_q : Nat → Int32) (a_q : isAr dyn q n_q f_q) (p0 : 0 ≤ xF1.toInt ∧ xF1.toInt ≤ 1) (p1 : 0 ≤ xMn.toInt ∧ xMn.toInt ≤ 40) (p2 : alF dOt dNa dRe dMa dMy dPm xMn xAl dyn) (k0 : ∀ (t9 : Int64), ∀ (p9 : Int32), (gfX (fun x => bl s x = true ∧ fitX xUp dMa dMy dPm n_q f_q xF1 x ph) xMn 0 xT1 t9 xP1 p9 ph) → Q none (hq g (hc1 xTc xFc xRc xVc xLr xFl) (hc2 xTn) (hc3 xPa) (hc4 xUp) (hc5 xMn xSt xAb xVa) (hc6 xAl) (hc7 xHa) (hc8 xNm) (hc9 xBy xBs) (hc10 (.ref (q + 50)) xF1 t9 p9 xD1) (hc11 xA2 xF2 xT2 xP2 xD2) (hc12 xTl) (hc13 xKi) (hc14 xAm) (hc15 xPl) (hc16 xCs xCo xCa) (hc17 xGo) (hc18 xOl xKn) (hc19 xKe) (hc20 xTo) (hc21 xFa) (hc22 xRe) (hc23 xVl) (hc24 xAr) c25 c26 c27 c28 c29 c30 c31 c32 c33 c34 c35 c36 c37 c38 c39 c40 c41 c42 c43 c44 c45 c46 c47 c48 c49 dyn)) : pm_WP 58 (0, [(0, .ref 10), (1, .long s), (3, .int ph)], [], hq g (hc1 xTc xFc xRc xVc xLr xFl) (hc2 xTn) (hc3 xPa) (hc4 xUp) (hc5 xMn xSt xAb xVa) (hc6 xAl) (hc7 xHa) (hc8 xNm) (hc9 xBy xBs) (hc10 (.ref (q + 50)) xF1 xT1 xP1 xD1) (hc11 xA2 xF2 xT2 xP2 xD2) (hc12 xTl) (hc13 xKi) (hc14 xAm) (hc15 xPl) (hc16 xCs xCo xCa) (hc17 xGo) (hc18 xOl xKn) (hc19 xKe) (hc20 xTo) (hc21 xFa) (hc22 xRe) (hc23 xVl) (hc24 xAr) c25 c26 c27 c28 c29 c30 c31 c32 c33 c34 c35 c36 c37 c38 c39 c40 c41 c42 c43 c44 c45 c46 c47 c48 c49 dyn, 0, 0) Q := by
  obtain ⟨h1, h2⟩ := id a_q
  refine pm_go (g := (1, [(0, .ref 10), (1, .long s), (3, .int ph)], [.int 0], hq g (hc1 xTc xFc xRc xVc xLr xFl) (hc2 xTn) (hc3 xPa) (hc4 xUp) (hc5 xMn xSt xAb xVa) (hc6 xAl) (hc7 xHa) (hc8 xNm) (hc9 xBy xBs) (hc10 (.ref (q + 50)) xF1 xT1 xP1 xD1) (hc11 xA2 xF2 xT2 xP2 xD2) (hc12 xTl) (hc13 xKi) (hc14 xAm) (hc15 xPl) (hc16 xCs xCo xCa) (hc17 xGo) (hc18 xOl xKn) (hc19 xKe) (hc20 xTo) (hc21 xFa) (hc22 xRe) (hc23 xVl) (hc24 xAr) c25 c26 c27 c28 c29 c30 c31 c32 c33 c34 c35 c36 c37 c38 c39 c40 c41 c42 c43 c44 c45 c46 c47 c48 c49 dyn, 0, 0)) rfl ?_
  refine pm_go (g := (3, [(4, .int 0), (0, .ref 10), (1, .long s), (3, .int ph)], [], _, 0, 0)) rfl ?_
  refine pm_sub (lv := [(4, .int 0), (0, .ref 10), (1, .long s), (3, .int ph)]) ?_ ⟨le_c (List.Mem.head _) (le_c (List.Mem.tail _ (List.Mem.head _)) (le_c (List.Mem.tail _ (List.Mem.tail _ (List.Mem.head _))) (le_c (List.Mem.tail _ (List.Mem.tail _ (List.Mem.tail _ (List.Mem.head _)))) le_n))), (show ([4, 0, 1, 3] : List Nat).Nodup by decide)⟩
  exact f_X6_gatherFit_10_l (xT1 := xT1) (xP1 := xP1) s ph q n_q f_q a_q p0 p1 p2 41 0 _ _ (by omega) (by omega) k0
set_option maxRecDepth 100000 in
set_option maxHeartbeats 4000000 in
theorem f_X6_isUnderAll_10_l {g c25 c26 c27 c28 c29 c30 c31 c32 c33 c34 c35 c36 c37 c38 c39 c40 c41 c42 c43 c44 c45 c46 c47 c48 c49 : pm_C} {dyn : pm_H} {dOt dNa dRe dMa dMy dPm : Nat → Int32} {xTc : Int32} {xFc : Int32} {xRc : Int32} {xVc : Int32} {xLr : Int32} {xFl : Int32} {xTn : Int32} {xMn : Int32} {xSt : Int64} {xAb : Int64} {xVa : Int64} {xBy : Value} {xBs : Int32} {xF1 : Int32} {xT1 : Int64} {xP1 : Int32} {xD1 : Value} {xA2 : Value} {xF2 : Int32} {xT2 : Int64} {xP2 : Int32} {xD2 : Value} {xTl : Int32} {xCs : Int32} {xCo : Int32} {xCa : Value} {xOl : Int32} {xKn : Int32} {xPa : Nat → Int32} {xUp : Nat → Int32} {xAl : Nat → Option Nat} {xHa : Nat → Int64} {xNm : Nat → Int64} {xKi : Nat → Int32} {xAm : Nat → Int32} {xPl : Nat → Int32} {xGo : Nat → Int32} {xKe : Nat → Int32} {xTo : Nat → Int32} {xFa : Nat → Option Nat} {xRe : Nat → Option Nat} {xVl : Nat → Option Nat} {xAr : Nat → Int32} {Q : pm_Q} (c : Int32) (m i_m : Nat) (o i_o : Nat) (q n_q : Nat) (f_q : Nat → Int32) (a_m : mbF dOt dNa dRe dMa dMy dPm dyn m i_m) (a_o : mbF dOt dNa dRe dMa dMy dPm dyn o i_o) (a_q : isAr dyn q n_q f_q) (p0 : c.toInt ≤ 3) : ∀ (n k : Nat), (k ≤ 3) → (3 < k + n) → (uaL xUp dMy dPm c xP1 i_m i_o k → Q (some (.int 1)) (hq g (hc1 xTc xFc xRc xVc xLr xFl) (hc2 xTn) (hc3 xPa) (hc4 xUp) (hc5 xMn xSt xAb xVa) (hc6 xAl) (hc7 xHa) (hc8 xNm) (hc9 xBy xBs) (hc10 (.ref (q + 50)) xF1 xT1 xP1 xD1) (hc11 xA2 xF2 xT2 xP2 xD2) (hc12 xTl) (hc13 xKi) (hc14 xAm) (hc15 xPl) (hc16 xCs xCo xCa) (hc17 xGo) (hc18 xOl xKn) (hc19 xKe) (hc20 xTo) (hc21 xFa) (hc22 xRe) (hc23 xVl) (hc24 xAr) c25 c26 c27 c28 c29 c30 c31 c32 c33 c34 c35 c36 c37 c38 c39 c40 c41 c42 c43 c44 c45 c46 c47 c48 c49 dyn)) → (¬ uaL xUp dMy dPm c xP1 i_m i_o k → Q (some (.int 0)) (hq g (hc1 xTc xFc xRc xVc xLr xFl) (hc2 xTn) (hc3 xPa) (hc4 xUp) (hc5 xMn xSt xAb xVa) (hc6 xAl) (hc7 xHa) (hc8 xNm) (hc9 xBy xBs) (hc10 (.ref (q + 50)) xF1 xT1 xP1 xD1) (hc11 xA2 xF2 xT2 xP2 xD2) (hc12 xTl) (hc13 xKi) (hc14 xAm) (hc15 xPl) (hc16 xCs xCo xCa) (hc17 xGo) (hc18 xOl xKn) (hc19 xKe) (hc20 xTo) (hc21 xFa) (hc22 xRe) (hc23 xVl) (hc24 xAr) c25 c26 c27 c28 c29 c30 c31 c32 c33 c34 c35 c36 c37 c38 c39 c40 c41 c42 c43 c44 c45 c46 c47 c48 c49 dyn)) → pm_WP 62 (34, [(4, .int (nI k)), (3, .int c), (0, .ref 10), (1, .ref (m + 50)), (2, .ref (o + 50))], [], hq g (hc1 xTc xFc xRc xVc xLr xFl) (hc2 xTn) (hc3 xPa) (hc4 xUp) (hc5 xMn xSt xAb xVa) (hc6 xAl) (hc7 xHa) (hc8 xNm) (hc9 xBy xBs) (hc10 (.ref (q + 50)) xF1 xT1 xP1 xD1) (hc11 xA2 xF2 xT2 xP2 xD2) (hc12 xTl) (hc13 xKi) (hc14 xAm) (hc15 xPl) (hc16 xCs xCo xCa) (hc17 xGo) (hc18 xOl xKn) (hc19 xKe) (hc20 xTo) (hc21 xFa) (hc22 xRe) (hc23 xVl) (hc24 xAr) c25 c26 c27 c28 c29 c30 c31 c32 c33 c34 c35 c36 c37 c38 c39 c40 c41 c42 c43 c44 c45 c46 c47 c48 c49 dyn, 0, 0) Q := by
  intro n
  induction n with
  | zero =>
    intro k g1 g2 k0 k1
    exfalso; omega
  | succ n ih =>
    intro k g1 g2 k0 k1
    have hk := nI_toInt (n := k) (by omega)
    have hkc : (nI k).toNatClampNeg = k := nI_clamp (by omega)
    obtain ⟨pw1, h2, h3, h4⟩ := id a_m
    obtain ⟨pw5, h6, h7, h8⟩ := id a_o
    obtain ⟨h9, h10⟩ := id a_q
    refine pm_go (g := (36, [(4, .int (nI k)), (3, .int c), (0, .ref 10), (1, .ref (m + 50)), (2, .ref (o + 50))], [.int (nI k)], hq g (hc1 xTc xFc xRc xVc xLr xFl) (hc2 xTn) (hc3 xPa) (hc4 xUp) (hc5 xMn xSt xAb xVa) (hc6 xAl) (hc7 xHa) (hc8 xNm) (hc9 xBy xBs) (hc10 (.ref (q + 50)) xF1 xT1 xP1 xD1) (hc11 xA2 xF2 xT2 xP2 xD2) (hc12 xTl) (hc13 xKi) (hc14 xAm) (hc15 xPl) (hc16 xCs xCo xCa) (hc17 xGo) (hc18 xOl xKn) (hc19 xKe) (hc20 xTo) (hc21 xFa) (hc22 xRe) (hc23 xVl) (hc24 xAr) c25 c26 c27 c28 c29 c30 c31 c32 c33 c34 c35 c36 c37 c38 c39 c40 c41 c42 c43 c44 c45 c46 c47 c48 c49 dyn, 0, 0)) rfl ?_
    refine pm_go (g := (37, _, [.int c, .int (nI k)], _, 0, 0)) rfl ?_
    refine pm_if2 (g := (78, [(4, .int (nI k)), (3, .int c), (0, .ref 10), (1, .ref (m + 50)), (2, .ref (o + 50))], [], hq g (hc1 xTc xFc xRc xVc xLr xFl) (hc2 xTn) (hc3 xPa) (hc4 xUp) (hc5 xMn xSt xAb xVa) (hc6 xAl) (hc7 xHa) (hc8 xNm) (hc9 xBy xBs) (hc10 (.ref (q + 50)) xF1 xT1 xP1 xD1) (hc11 xA2 xF2 xT2 xP2 xD2) (hc12 xTl) (hc13 xKi) (hc14 xAm) (hc15 xPl) (hc16 xCs xCo xCa) (hc17 xGo) (hc18 xOl xKn) (hc19 xKe) (hc20 xTo) (hc21 xFa) (hc22 xRe) (hc23 xVl) (hc24 xAr) c25 c26 c27 c28 c29 c30 c31 c32 c33 c34 c35 c36 c37 c38 c39 c40 c41 c42 c43 c44 c45 c46 c47 c48 c49 dyn, 0, 0)) (h := (40, [(4, .int (nI k)), (3, .int c), (0, .ref 10), (1, .ref (m + 50)), (2, .ref (o + 50))], [], hq g (hc1 xTc xFc xRc xVc xLr xFl) (hc2 xTn) (hc3 xPa) (hc4 xUp) (hc5 xMn xSt xAb xVa) (hc6 xAl) (hc7 xHa) (hc8 xNm) (hc9 xBy xBs) (hc10 (.ref (q + 50)) xF1 xT1 xP1 xD1) (hc11 xA2 xF2 xT2 xP2 xD2) (hc12 xTl) (hc13 xKi) (hc14 xAm) (hc15 xPl) (hc16 xCs xCo xCa) (hc17 xGo) (hc18 xOl xKn) (hc19 xKe) (hc20 xTo) (hc21 xFa) (hc22 xRe) (hc23 xVl) (hc24 xAr) c25 c26 c27 c28 c29 c30 c31 c32 c33 c34 c35 c36 c37 c38 c39 c40 c41 c42 c43 c44 c45 c46 c47 c48 c49 dyn, 0, 0)) rfl (fun h11 => ?_) (fun h11 => ?_)
    ·
      have h11 := qT_ge (cx := (nI k).toInt) (cy := (c).toInt) rfl rfl h11
      refine pm_go (g := (79, _, [.int 1], _, 0, 0)) rfl ?_
      exact pm_ret rfl (k0 (fun j q1 q2 => by omega))
    have h11 := qF_ge (cx := (nI k).toInt) (cy := (c).toInt) rfl rfl h11
    refine pm_go (g := (41, _, [.ref 10], _, 0, 0)) rfl ?_
    refine pm_go (g := (44, _, [.ref 2], _, 0, 0)) rfl ?_
    refine pm_go (g := (45, _, [.ref (m + 50), .ref 2], _, 0, 0)) rfl ?_
    refine pm_go (g := (47, _, [.int (nI k), .ref (m + 50), .ref 2], _, 0, 0)) rfl ?_
    refine pm_go (g := (48, _, [.ref 10, .int (nI k), .ref (m + 50), .ref 2], _, 0, 0)) rfl ?_
    refine pm_go (g := (51, _, [.int xP1, .int (nI k), .ref (m + 50), .ref 2], _, 0, 0)) rfl ?_
    refine pm_ivD (r := m + 50) (as := [.int (nI k), .int xP1]) (rest := [.ref 2]) rfl rfl (hq_at.trans h2) rfl ?_
    refine f_X3_typeAt m i_m (nI k) xP1 a_m (by omega) ?_
    show pm_WP 62 (54, [(4, .int (nI k)), (3, .int c), (0, .ref 10), (1, .ref (m + 50)), (2, .ref (o + 50))], [.int (tyM dMy dPm i_m (nI k).toNatClampNeg xP1), .ref 2], _, 0, 0) _
    refine pm_go (g := (55, _, [.ref (o + 50), .int (tyM dMy dPm i_m (nI k).toNatClampNeg xP1), .ref 2], _, 0, 0)) rfl ?_
    refine pm_go (g := (57, _, [.int (nI k), .ref (o + 50), .int (tyM dMy dPm i_m (nI k).toNatClampNeg xP1), .ref 2], _, 0, 0)) rfl ?_
    refine pm_go (g := (58, _, [.ref 10, .int (nI k), .ref (o + 50), .int (tyM dMy dPm i_m (nI k).toNatClampNeg xP1), .ref 2], _, 0, 0)) rfl ?_
    refine pm_go (g := (61, _, [.int xP1, .int (nI k), .ref (o + 50), .int (tyM dMy dPm i_m (nI k).toNatClampNeg xP1), .ref 2], _, 0, 0)) rfl ?_
    refine pm_ivD (r := o + 50) (as := [.int (nI k), .int xP1]) (rest := [.int (tyM dMy dPm i_m (nI k).toNatClampNeg xP1), .ref 2]) rfl rfl (hq_at.trans h6) rfl ?_
    refine f_X3_typeAt o i_o (nI k) xP1 a_o (by omega) ?_
    show pm_WP 62 (64, [(4, .int (nI k)), (3, .int c), (0, .ref 10), (1, .ref (m + 50)), (2, .ref (o + 50))], [.int (tyM dMy dPm i_o (nI k).toNatClampNeg xP1), .int (tyM dMy dPm i_m (nI k).toNatClampNeg xP1), .ref 2], _, 0, 0) _
    refine pm_callD (z := 87) (as := [.ref 2, .int (tyM dMy dPm i_m (nI k).toNatClampNeg xP1), .int (tyM dMy dPm i_o (nI k).toNatClampNeg xP1)]) (rest := []) rfl ?_
    refine f_X9_isUnder (tyM dMy dPm i_m (nI k).toNatClampNeg xP1) (tyM dMy dPm i_o (nI k).toNatClampNeg xP1) (fun h14 => ?_) (fun h15 => ?_)
    ·
      show pm_WP 62 (67, [(4, .int (nI k)), (3, .int c), (0, .ref 10), (1, .ref (m + 50)), (2, .ref (o + 50))], [.int 1], _, 0, 0) _
      refine pm_brT (g := (72, [(4, .int (nI k)), (3, .int c), (0, .ref 10), (1, .ref (m + 50)), (2, .ref (o + 50))], [], hq g (hc1 xTc xFc xRc xVc xLr xFl) (hc2 xTn) (hc3 xPa) (hc4 xUp) (hc5 xMn xSt xAb xVa) (hc6 xAl) (hc7 xHa) (hc8 xNm) (hc9 xBy xBs) (hc10 (.ref (q + 50)) xF1 xT1 xP1 xD1) (hc11 xA2 xF2 xT2 xP2 xD2) (hc12 xTl) (hc13 xKi) (hc14 xAm) (hc15 xPl) (hc16 xCs xCo xCa) (hc17 xGo) (hc18 xOl xKn) (hc19 xKe) (hc20 xTo) (hc21 xFa) (hc22 xRe) (hc23 xVl) (hc24 xAr) c25 c26 c27 c28 c29 c30 c31 c32 c33 c34 c35 c36 c37 c38 c39 c40 c41 c42 c43 c44 c45 c46 c47 c48 c49 dyn, 0, 0)) rfl ?_
      refine pm_go (g := (75, [(4, .int ((nI k) + 1)), (3, .int c), (0, .ref 10), (1, .ref (m + 50)), (2, .ref (o + 50))], [], _, 0, 0)) rfl ?_
      refine pm_go (g := (34, _, [], _, 0, 0)) rfl ?_
      refine pm_sub (lv := [(4, .int ((nI k) + 1)), (3, .int c), (0, .ref 10), (1, .ref (m + 50)), (2, .ref (o + 50))]) ?_ ⟨le_c (List.Mem.head _) (le_c (List.Mem.tail _ (List.Mem.head _)) (le_c (List.Mem.tail _ (List.Mem.tail _ (List.Mem.head _))) (le_c (List.Mem.tail _ (List.Mem.tail _ (List.Mem.tail _ (List.Mem.head _)))) (le_c (List.Mem.tail _ (List.Mem.tail _ (List.Mem.tail _ (List.Mem.tail _ (List.Mem.head _))))) le_n)))), (show ([4, 3, 0, 1, 2] : List Nat).Nodup by decide)⟩
      rw [nI_1]
      refine ih (k + 1) (by omega) (by omega) (fun h => k0 (fun j q1 q2 => ?_)) (fun h => k1 (fun q => h (fun j q1 q2 => q j (by omega) q2)))
      rcases Nat.eq_or_lt_of_le q1 with e9 | e9
      · subst e9; rw [hkc] at h14; assumption
      · exact h j e9 q2
    show pm_WP 62 (67, [(4, .int (nI k)), (3, .int c), (0, .ref 10), (1, .ref (m + 50)), (2, .ref (o + 50))], [.int 0], hq g (hc1 xTc xFc xRc xVc xLr xFl) (hc2 xTn) (hc3 xPa) (hc4 xUp) (hc5 xMn xSt xAb xVa) (hc6 xAl) (hc7 xHa) (hc8 xNm) (hc9 xBy xBs) (hc10 (.ref (q + 50)) xF1 xT1 xP1 xD1) (hc11 xA2 xF2 xT2 xP2 xD2) (hc12 xTl) (hc13 xKi) (hc14 xAm) (hc15 xPl) (hc16 xCs xCo xCa) (hc17 xGo) (hc18 xOl xKn) (hc19 xKe) (hc20 xTo) (hc21 xFa) (hc22 xRe) (hc23 xVl) (hc24 xAr) c25 c26 c27 c28 c29 c30 c31 c32 c33 c34 c35 c36 c37 c38 c39 c40 c41 c42 c43 c44 c45 c46 c47 c48 c49 dyn, 0, 0) _
    refine pm_brF (h := (70, [(4, .int (nI k)), (3, .int c), (0, .ref 10), (1, .ref (m + 50)), (2, .ref (o + 50))], [], hq g (hc1 xTc xFc xRc xVc xLr xFl) (hc2 xTn) (hc3 xPa) (hc4 xUp) (hc5 xMn xSt xAb xVa) (hc6 xAl) (hc7 xHa) (hc8 xNm) (hc9 xBy xBs) (hc10 (.ref (q + 50)) xF1 xT1 xP1 xD1) (hc11 xA2 xF2 xT2 xP2 xD2) (hc12 xTl) (hc13 xKi) (hc14 xAm) (hc15 xPl) (hc16 xCs xCo xCa) (hc17 xGo) (hc18 xOl xKn) (hc19 xKe) (hc20 xTo) (hc21 xFa) (hc22 xRe) (hc23 xVl) (hc24 xAr) c25 c26 c27 c28 c29 c30 c31 c32 c33 c34 c35 c36 c37 c38 c39 c40 c41 c42 c43 c44 c45 c46 c47 c48 c49 dyn, 0, 0)) rfl ?_
    refine pm_go (g := (71, _, [.int 0], _, 0, 0)) rfl ?_
    refine pm_ret rfl (k1 (fun q => ?_))
    rw [hkc] at h15
    exact absurd (q k (Nat.le_refl k) (by omega)) (by assumption)
set_option maxRecDepth 100000 in
set_option maxHeartbeats 4000000 in
theorem f_X6_isUnderAll_10 {g c25 c26 c27 c28 c29 c30 c31 c32 c33 c34 c35 c36 c37 c38 c39 c40 c41 c42 c43 c44 c45 c46 c47 c48 c49 : pm_C} {dyn : pm_H} {dOt dNa dRe dMa dMy dPm : Nat → Int32} {xTc : Int32} {xFc : Int32} {xRc : Int32} {xVc : Int32} {xLr : Int32} {xFl : Int32} {xTn : Int32} {xMn : Int32} {xSt : Int64} {xAb : Int64} {xVa : Int64} {xBy : Value} {xBs : Int32} {xF1 : Int32} {xT1 : Int64} {xP1 : Int32} {xD1 : Value} {xA2 : Value} {xF2 : Int32} {xT2 : Int64} {xP2 : Int32} {xD2 : Value} {xTl : Int32} {xCs : Int32} {xCo : Int32} {xCa : Value} {xOl : Int32} {xKn : Int32} {xPa : Nat → Int32} {xUp : Nat → Int32} {xAl : Nat → Option Nat} {xHa : Nat → Int64} {xNm : Nat → Int64} {xKi : Nat → Int32} {xAm : Nat → Int32} {xPl : Nat → Int32} {xGo : Nat → Int32} {xKe : Nat → Int32} {xTo : Nat → Int32} {xFa : Nat → Option Nat} {xRe : Nat → Option Nat} {xVl : Nat → Option Nat} {xAr : Nat → Int32} {Q : pm_Q} (m i_m : Nat) (o i_o : Nat) (q n_q : Nat) (f_q : Nat → Int32) (a_m : mbF dOt dNa dRe dMa dMy dPm dyn m i_m) (a_o : mbF dOt dNa dRe dMa dMy dPm dyn o i_o) (a_q : isAr dyn q n_q f_q) (p0 : 0 ≤ xF1.toInt ∧ xF1.toInt ≤ 1) (k0 : (uaX xUp dMy dPm ((n_q : Int) - xF1.toInt) xP1 i_m i_o) → Q (some (.int 1)) (hq g (hc1 xTc xFc xRc xVc xLr xFl) (hc2 xTn) (hc3 xPa) (hc4 xUp) (hc5 xMn xSt xAb xVa) (hc6 xAl) (hc7 xHa) (hc8 xNm) (hc9 xBy xBs) (hc10 (.ref (q + 50)) xF1 xT1 xP1 xD1) (hc11 xA2 xF2 xT2 xP2 xD2) (hc12 xTl) (hc13 xKi) (hc14 xAm) (hc15 xPl) (hc16 xCs xCo xCa) (hc17 xGo) (hc18 xOl xKn) (hc19 xKe) (hc20 xTo) (hc21 xFa) (hc22 xRe) (hc23 xVl) (hc24 xAr) c25 c26 c27 c28 c29 c30 c31 c32 c33 c34 c35 c36 c37 c38 c39 c40 c41 c42 c43 c44 c45 c46 c47 c48 c49 dyn)) (k1 : (¬ (uaX xUp dMy dPm ((n_q : Int) - xF1.toInt) xP1 i_m i_o)) → Q (some (.int 0)) (hq g (hc1 xTc xFc xRc xVc xLr xFl) (hc2 xTn) (hc3 xPa) (hc4 xUp) (hc5 xMn xSt xAb xVa) (hc6 xAl) (hc7 xHa) (hc8 xNm) (hc9 xBy xBs) (hc10 (.ref (q + 50)) xF1 xT1 xP1 xD1) (hc11 xA2 xF2 xT2 xP2 xD2) (hc12 xTl) (hc13 xKi) (hc14 xAm) (hc15 xPl) (hc16 xCs xCo xCa) (hc17 xGo) (hc18 xOl xKn) (hc19 xKe) (hc20 xTo) (hc21 xFa) (hc22 xRe) (hc23 xVl) (hc24 xAr) c25 c26 c27 c28 c29 c30 c31 c32 c33 c34 c35 c36 c37 c38 c39 c40 c41 c42 c43 c44 c45 c46 c47 c48 c49 dyn)) : pm_WP 62 (0, [(0, .ref 10), (1, .ref (m + 50)), (2, .ref (o + 50))], [], hq g (hc1 xTc xFc xRc xVc xLr xFl) (hc2 xTn) (hc3 xPa) (hc4 xUp) (hc5 xMn xSt xAb xVa) (hc6 xAl) (hc7 xHa) (hc8 xNm) (hc9 xBy xBs) (hc10 (.ref (q + 50)) xF1 xT1 xP1 xD1) (hc11 xA2 xF2 xT2 xP2 xD2) (hc12 xTl) (hc13 xKi) (hc14 xAm) (hc15 xPl) (hc16 xCs xCo xCa) (hc17 xGo) (hc18 xOl xKn) (hc19 xKe) (hc20 xTo) (hc21 xFa) (hc22 xRe) (hc23 xVl) (hc24 xAr) c25 c26 c27 c28 c29 c30 c31 c32 c33 c34 c35 c36 c37 c38 c39 c40 c41 c42 c43 c44 c45 c46 c47 c48 c49 dyn, 0, 0) Q := by
  obtain ⟨pw1, h2, h3, h4⟩ := id a_m
  obtain ⟨pw5, h6, h7, h8⟩ := id a_o
  obtain ⟨h9, h10⟩ := id a_q
  refine pm_go (g := (1, [(0, .ref 10), (1, .ref (m + 50)), (2, .ref (o + 50))], [.ref 10], hq g (hc1 xTc xFc xRc xVc xLr xFl) (hc2 xTn) (hc3 xPa) (hc4 xUp) (hc5 xMn xSt xAb xVa) (hc6 xAl) (hc7 xHa) (hc8 xNm) (hc9 xBy xBs) (hc10 (.ref (q + 50)) xF1 xT1 xP1 xD1) (hc11 xA2 xF2 xT2 xP2 xD2) (hc12 xTl) (hc13 xKi) (hc14 xAm) (hc15 xPl) (hc16 xCs xCo xCa) (hc17 xGo) (hc18 xOl xKn) (hc19 xKe) (hc20 xTo) (hc21 xFa) (hc22 xRe) (hc23 xVl) (hc24 xAr) c25 c26 c27 c28 c29 c30 c31 c32 c33 c34 c35 c36 c37 c38 c39 c40 c41 c42 c43 c44 c45 c46 c47 c48 c49 dyn, 0, 0)) rfl ?_
  refine pm_callD (z := 57) (as := [.ref 10]) (rest := []) rfl ?_
  refine f_X6_argumentCount_10 q n_q f_q ⟨h9, by omega⟩ (by omega) (fun v11_r9 h11 => ?_)
  show pm_WP 62 (4, [(0, .ref 10), (1, .ref (m + 50)), (2, .ref (o + 50))], [.int v11_r9], _, 0, 0) _
  refine pm_go (g := (5, [(3, .int v11_r9), (0, .ref 10), (1, .ref (m + 50)), (2, .ref (o + 50))], [], _, 0, 0)) rfl ?_
  refine pm_go (g := (6, _, [.ref 10], _, 0, 0)) rfl ?_
  refine pm_go (g := (9, _, [.int xP1], _, 0, 0)) rfl ?_
  refine pm_go (g := (10, _, [.int 3, .int xP1], _, 0, 0)) rfl ?_
  refine pm_if2 (g := (31, [(3, .int v11_r9), (0, .ref 10), (1, .ref (m + 50)), (2, .ref (o + 50))], [], hq g (hc1 xTc xFc xRc xVc xLr xFl) (hc2 xTn) (hc3 xPa) (hc4 xUp) (hc5 xMn xSt xAb xVa) (hc6 xAl) (hc7 xHa) (hc8 xNm) (hc9 xBy xBs) (hc10 (.ref (q + 50)) xF1 xT1 xP1 xD1) (hc11 xA2 xF2 xT2 xP2 xD2) (hc12 xTl) (hc13 xKi) (hc14 xAm) (hc15 xPl) (hc16 xCs xCo xCa) (hc17 xGo) (hc18 xOl xKn) (hc19 xKe) (hc20 xTo) (hc21 xFa) (hc22 xRe) (hc23 xVl) (hc24 xAr) c25 c26 c27 c28 c29 c30 c31 c32 c33 c34 c35 c36 c37 c38 c39 c40 c41 c42 c43 c44 c45 c46 c47 c48 c49 dyn, 0, 0)) (h := (13, [(3, .int v11_r9), (0, .ref 10), (1, .ref (m + 50)), (2, .ref (o + 50))], [], hq g (hc1 xTc xFc xRc xVc xLr xFl) (hc2 xTn) (hc3 xPa) (hc4 xUp) (hc5 xMn xSt xAb xVa) (hc6 xAl) (hc7 xHa) (hc8 xNm) (hc9 xBy xBs) (hc10 (.ref (q + 50)) xF1 xT1 xP1 xD1) (hc11 xA2 xF2 xT2 xP2 xD2) (hc12 xTl) (hc13 xKi) (hc14 xAm) (hc15 xPl) (hc16 xCs xCo xCa) (hc17 xGo) (hc18 xOl xKn) (hc19 xKe) (hc20 xTo) (hc21 xFa) (hc22 xRe) (hc23 xVl) (hc24 xAr) c25 c26 c27 c28 c29 c30 c31 c32 c33 c34 c35 c36 c37 c38 c39 c40 c41 c42 c43 c44 c45 c46 c47 c48 c49 dyn, 0, 0)) rfl (fun h13 => ?_) (fun h13 => ?_)
  ·
    have h13 := qT_ne (cx := (xP1).toInt) (cy := 3) rfl (by decide) h13
    refine pm_go (g := (32, _, [.int 0], _, 0, 0)) rfl ?_
    refine pm_go (g := (34, [(4, .int 0), (3, .int v11_r9), (0, .ref 10), (1, .ref (m + 50)), (2, .ref (o + 50))], [], _, 0, 0)) rfl ?_
    refine pm_sub (lv := [(4, .int 0), (3, .int v11_r9), (0, .ref 10), (1, .ref (m + 50)), (2, .ref (o + 50))]) ?_ ⟨le_c (List.Mem.head _) (le_c (List.Mem.tail _ (List.Mem.head _)) (le_c (List.Mem.tail _ (List.Mem.tail _ (List.Mem.head _))) (le_c (List.Mem.tail _ (List.Mem.tail _ (List.Mem.tail _ (List.Mem.head _)))) (le_c (List.Mem.tail _ (List.Mem.tail _ (List.Mem.tail _ (List.Mem.tail _ (List.Mem.head _))))) le_n)))), (show ([4, 3, 0, 1, 2] : List Nat).Nodup by decide)⟩
    refine f_X6_isUnderAll_10_l (v11_r9) m i_m o i_o q n_q f_q a_m a_o a_q (by omega) 4 0 (by omega) (by omega) (fun h => k0 (fun x q => h x (Nat.zero_le x) ?_)) (fun h => k1 (fun q => h (fun x q1 q2 => q x ?_)))
    · unfold uaB at q; omega
    · unfold uaB; omega
  have h13 := qF_ne (cx := (xP1).toInt) (cy := 3) rfl (by decide) h13
  refine pm_go (g := (14, [(3, .int v11_r9), (0, .ref 10), (1, .ref (m + 50)), (2, .ref (o + 50))], [.int v11_r9], _, 0, 0)) rfl ?_
  refine pm_go (g := (15, _, [.ref (m + 50), .int v11_r9], _, 0, 0)) rfl ?_
  refine pm_gfD rfl (hq_at.trans h2) rfl rfl ?_
  show pm_WP 62 (18, [(3, .int v11_r9), (0, .ref 10), (1, .ref (m + 50)), (2, .ref (o + 50))], [.ref (pw1 + 50), .int v11_r9], hq g (hc1 xTc xFc xRc xVc xLr xFl) (hc2 xTn) (hc3 xPa) (hc4 xUp) (hc5 xMn xSt xAb xVa) (hc6 xAl) (hc7 xHa) (hc8 xNm) (hc9 xBy xBs) (hc10 (.ref (q + 50)) xF1 xT1 xP1 xD1) (hc11 xA2 xF2 xT2 xP2 xD2) (hc12 xTl) (hc13 xKi) (hc14 xAm) (hc15 xPl) (hc16 xCs xCo xCa) (hc17 xGo) (hc18 xOl xKn) (hc19 xKe) (hc20 xTo) (hc21 xFa) (hc22 xRe) (hc23 xVl) (hc24 xAr) c25 c26 c27 c28 c29 c30 c31 c32 c33 c34 c35 c36 c37 c38 c39 c40 c41 c42 c43 c44 c45 c46 c47 c48 c49 dyn, 0, 0) _
  refine pm_alD rfl (hq_at.trans h3) ?_
  show pm_WP 62 (19, [(3, .int v11_r9), (0, .ref 10), (1, .ref (m + 50)), (2, .ref (o + 50))], [.int (nI ((dMy i_m).toNatClampNeg)), .int v11_r9], hq g (hc1 xTc xFc xRc xVc xLr xFl) (hc2 xTn) (hc3 xPa) (hc4 xUp) (hc5 xMn xSt xAb xVa) (hc6 xAl) (hc7 xHa) (hc8 xNm) (hc9 xBy xBs) (hc10 (.ref (q + 50)) xF1 xT1 xP1 xD1) (hc11 xA2 xF2 xT2 xP2 xD2) (hc12 xTl) (hc13 xKi) (hc14 xAm) (hc15 xPl) (hc16 xCs xCo xCa) (hc17 xGo) (hc18 xOl xKn) (hc19 xKe) (hc20 xTo) (hc21 xFa) (hc22 xRe) (hc23 xVl) (hc24 xAr) c25 c26 c27 c28 c29 c30 c31 c32 c33 c34 c35 c36 c37 c38 c39 c40 c41 c42 c43 c44 c45 c46 c47 c48 c49 dyn, 0, 0) _
  have h14 := nI_toInt (n := (dMy i_m).toNatClampNeg) (by omega)
  refine pm_go (g := (20, _, [.ref (o + 50), .int (nI ((dMy i_m).toNatClampNeg)), .int v11_r9], _, 0, 0)) rfl ?_
  refine pm_gfD rfl (hq_at.trans h6) rfl rfl ?_
  show pm_WP 62 (23, [(3, .int v11_r9), (0, .ref 10), (1, .ref (m + 50)), (2, .ref (o + 50))], [.ref (pw5 + 50), .int (nI ((dMy i_m).toNatClampNeg)), .int v11_r9], hq g (hc1 xTc xFc xRc xVc xLr xFl) (hc2 xTn) (hc3 xPa) (hc4 xUp) (hc5 xMn xSt xAb xVa) (hc6 xAl) (hc7 xHa) (hc8 xNm) (hc9 xBy xBs) (hc10 (.ref (q + 50)) xF1 xT1 xP1 xD1) (hc11 xA2 xF2 xT2 xP2 xD2) (hc12 xTl) (hc13 xKi) (hc14 xAm) (hc15 xPl) (hc16 xCs xCo xCa) (hc17 xGo) (hc18 xOl xKn) (hc19 xKe) (hc20 xTo) (hc21 xFa) (hc22 xRe) (hc23 xVl) (hc24 xAr) c25 c26 c27 c28 c29 c30 c31 c32 c33 c34 c35 c36 c37 c38 c39 c40 c41 c42 c43 c44 c45 c46 c47 c48 c49 dyn, 0, 0) _
  refine pm_alD rfl (hq_at.trans h7) ?_
  show pm_WP 62 (24, [(3, .int v11_r9), (0, .ref 10), (1, .ref (m + 50)), (2, .ref (o + 50))], [.int (nI ((dMy i_o).toNatClampNeg)), .int (nI ((dMy i_m).toNatClampNeg)), .int v11_r9], hq g (hc1 xTc xFc xRc xVc xLr xFl) (hc2 xTn) (hc3 xPa) (hc4 xUp) (hc5 xMn xSt xAb xVa) (hc6 xAl) (hc7 xHa) (hc8 xNm) (hc9 xBy xBs) (hc10 (.ref (q + 50)) xF1 xT1 xP1 xD1) (hc11 xA2 xF2 xT2 xP2 xD2) (hc12 xTl) (hc13 xKi) (hc14 xAm) (hc15 xPl) (hc16 xCs xCo xCa) (hc17 xGo) (hc18 xOl xKn) (hc19 xKe) (hc20 xTo) (hc21 xFa) (hc22 xRe) (hc23 xVl) (hc24 xAr) c25 c26 c27 c28 c29 c30 c31 c32 c33 c34 c35 c36 c37 c38 c39 c40 c41 c42 c43 c44 c45 c46 c47 c48 c49 dyn, 0, 0) _
  have h15 := nI_toInt (n := (dMy i_o).toNatClampNeg) (by omega)
  refine pm_mxD rfl rfl (fun hM17 => ?_) (fun hM17 => ?_)
  ·
    show pm_WP 62 (27, [(3, .int v11_r9), (0, .ref 10), (1, .ref (m + 50)), (2, .ref (o + 50))], [.int (nI ((dMy i_o).toNatClampNeg)), .int v11_r9], hq g (hc1 xTc xFc xRc xVc xLr xFl) (hc2 xTn) (hc3 xPa) (hc4 xUp) (hc5 xMn xSt xAb xVa) (hc6 xAl) (hc7 xHa) (hc8 xNm) (hc9 xBy xBs) (hc10 (.ref (q + 50)) xF1 xT1 xP1 xD1) (hc11 xA2 xF2 xT2 xP2 xD2) (hc12 xTl) (hc13 xKi) (hc14 xAm) (hc15 xPl) (hc16 xCs xCo xCa) (hc17 xGo) (hc18 xOl xKn) (hc19 xKe) (hc20 xTo) (hc21 xFa) (hc22 xRe) (hc23 xVl) (hc24 xAr) c25 c26 c27 c28 c29 c30 c31 c32 c33 c34 c35 c36 c37 c38 c39 c40 c41 c42 c43 c44 c45 c46 c47 c48 c49 dyn, 0, 0) _
    refine pm_mxD rfl rfl (fun hM18 => ?_) (fun hM18 => ?_)
    ·
      show pm_WP 62 (30, [(3, .int v11_r9), (0, .ref 10), (1, .ref (m + 50)), (2, .ref (o + 50))], [.int (nI ((dMy i_o).toNatClampNeg))], hq g (hc1 xTc xFc xRc xVc xLr xFl) (hc2 xTn) (hc3 xPa) (hc4 xUp) (hc5 xMn xSt xAb xVa) (hc6 xAl) (hc7 xHa) (hc8 xNm) (hc9 xBy xBs) (hc10 (.ref (q + 50)) xF1 xT1 xP1 xD1) (hc11 xA2 xF2 xT2 xP2 xD2) (hc12 xTl) (hc13 xKi) (hc14 xAm) (hc15 xPl) (hc16 xCs xCo xCa) (hc17 xGo) (hc18 xOl xKn) (hc19 xKe) (hc20 xTo) (hc21 xFa) (hc22 xRe) (hc23 xVl) (hc24 xAr) c25 c26 c27 c28 c29 c30 c31 c32 c33 c34 c35 c36 c37 c38 c39 c40 c41 c42 c43 c44 c45 c46 c47 c48 c49 dyn, 0, 0) _
      refine pm_go (g := (31, [(3, .int (nI ((dMy i_o).toNatClampNeg))), (0, .ref 10), (1, .ref (m + 50)), (2, .ref (o + 50))], [], _, 0, 0)) rfl ?_
      refine pm_go (g := (32, _, [.int 0], _, 0, 0)) rfl ?_
      refine pm_go (g := (34, [(4, .int 0), (3, .int (nI ((dMy i_o).toNatClampNeg))), (0, .ref 10), (1, .ref (m + 50)), (2, .ref (o + 50))], [], _, 0, 0)) rfl ?_
      refine pm_sub (lv := [(4, .int 0), (3, .int (nI ((dMy i_o).toNatClampNeg))), (0, .ref 10), (1, .ref (m + 50)), (2, .ref (o + 50))]) ?_ ⟨le_c (List.Mem.head _) (le_c (List.Mem.tail _ (List.Mem.head _)) (le_c (List.Mem.tail _ (List.Mem.tail _ (List.Mem.head _))) (le_c (List.Mem.tail _ (List.Mem.tail _ (List.Mem.tail _ (List.Mem.head _)))) (le_c (List.Mem.tail _ (List.Mem.tail _ (List.Mem.tail _ (List.Mem.tail _ (List.Mem.head _))))) le_n)))), (show ([4, 3, 0, 1, 2] : List Nat).Nodup by decide)⟩
      refine f_X6_isUnderAll_10_l (nI ((dMy i_o).toNatClampNeg)) m i_m o i_o q n_q f_q a_m a_o a_q (by omega) 4 0 (by omega) (by omega) (fun h => k0 (fun x q => h x (Nat.zero_le x) ?_)) (fun h => k1 (fun q => h (fun x q1 q2 => q x ?_)))
      · unfold uaB at q; omega
      · unfold uaB; omega
    show pm_WP 62 (30, [(3, .int v11_r9), (0, .ref 10), (1, .ref (m + 50)), (2, .ref (o + 50))], [.int v11_r9], _, 0, 0) _
    refine pm_go (g := (31, _, [], _, 0, 0)) rfl ?_
    refine pm_go (g := (32, _, [.int 0], _, 0, 0)) rfl ?_
    refine pm_go (g := (34, [(4, .int 0), (3, .int v11_r9), (0, .ref 10), (1, .ref (m + 50)), (2, .ref (o + 50))], [], _, 0, 0)) rfl ?_
    refine pm_sub (lv := [(4, .int 0), (3, .int v11_r9), (0, .ref 10), (1, .ref (m + 50)), (2, .ref (o + 50))]) ?_ ⟨le_c (List.Mem.head _) (le_c (List.Mem.tail _ (List.Mem.head _)) (le_c (List.Mem.tail _ (List.Mem.tail _ (List.Mem.head _))) (le_c (List.Mem.tail _ (List.Mem.tail _ (List.Mem.tail _ (List.Mem.head _)))) (le_c (List.Mem.tail _ (List.Mem.tail _ (List.Mem.tail _ (List.Mem.tail _ (List.Mem.head _))))) le_n)))), (show ([4, 3, 0, 1, 2] : List Nat).Nodup by decide)⟩
    refine f_X6_isUnderAll_10_l (v11_r9) m i_m o i_o q n_q f_q a_m a_o a_q (by omega) 4 0 (by omega) (by omega) (fun h => k0 (fun x q => h x (Nat.zero_le x) ?_)) (fun h => k1 (fun q => h (fun x q1 q2 => q x ?_)))
    · unfold uaB at q; omega
    · unfold uaB; omega
  show pm_WP 62 (27, [(3, .int v11_r9), (0, .ref 10), (1, .ref (m + 50)), (2, .ref (o + 50))], [.int (nI ((dMy i_m).toNatClampNeg)), .int v11_r9], _, 0, 0) _
  refine pm_mxD rfl rfl (fun hM25 => ?_) (fun hM25 => ?_)
  ·
    show pm_WP 62 (30, [(3, .int v11_r9), (0, .ref 10), (1, .ref (m + 50)), (2, .ref (o + 50))], [.int (nI ((dMy i_m).toNatClampNeg))], hq g (hc1 xTc xFc xRc xVc xLr xFl) (hc2 xTn) (hc3 xPa) (hc4 xUp) (hc5 xMn xSt xAb xVa) (hc6 xAl) (hc7 xHa) (hc8 xNm) (hc9 xBy xBs) (hc10 (.ref (q + 50)) xF1 xT1 xP1 xD1) (hc11 xA2 xF2 xT2 xP2 xD2) (hc12 xTl) (hc13 xKi) (hc14 xAm) (hc15 xPl) (hc16 xCs xCo xCa) (hc17 xGo) (hc18 xOl xKn) (hc19 xKe) (hc20 xTo) (hc21 xFa) (hc22 xRe) (hc23 xVl) (hc24 xAr) c25 c26 c27 c28 c29 c30 c31 c32 c33 c34 c35 c36 c37 c38 c39 c40 c41 c42 c43 c44 c45 c46 c47 c48 c49 dyn, 0, 0) _
    refine pm_go (g := (31, [(3, .int (nI ((dMy i_m).toNatClampNeg))), (0, .ref 10), (1, .ref (m + 50)), (2, .ref (o + 50))], [], _, 0, 0)) rfl ?_
    refine pm_go (g := (32, _, [.int 0], _, 0, 0)) rfl ?_
    refine pm_go (g := (34, [(4, .int 0), (3, .int (nI ((dMy i_m).toNatClampNeg))), (0, .ref 10), (1, .ref (m + 50)), (2, .ref (o + 50))], [], _, 0, 0)) rfl ?_
    refine pm_sub (lv := [(4, .int 0), (3, .int (nI ((dMy i_m).toNatClampNeg))), (0, .ref 10), (1, .ref (m + 50)), (2, .ref (o + 50))]) ?_ ⟨le_c (List.Mem.head _) (le_c (List.Mem.tail _ (List.Mem.head _)) (le_c (List.Mem.tail _ (List.Mem.tail _ (List.Mem.head _))) (le_c (List.Mem.tail _ (List.Mem.tail _ (List.Mem.tail _ (List.Mem.head _)))) (le_c (List.Mem.tail _ (List.Mem.tail _ (List.Mem.tail _ (List.Mem.tail _ (List.Mem.head _))))) le_n)))), (show ([4, 3, 0, 1, 2] : List Nat).Nodup by decide)⟩
    refine f_X6_isUnderAll_10_l (nI ((dMy i_m).toNatClampNeg)) m i_m o i_o q n_q f_q a_m a_o a_q (by omega) 4 0 (by omega) (by omega) (fun h => k0 (fun x q => h x (Nat.zero_le x) ?_)) (fun h => k1 (fun q => h (fun x q1 q2 => q x ?_)))
    · unfold uaB at q; omega
    · unfold uaB; omega
  show pm_WP 62 (30, [(3, .int v11_r9), (0, .ref 10), (1, .ref (m + 50)), (2, .ref (o + 50))], [.int v11_r9], _, 0, 0) _
  refine pm_go (g := (31, _, [], _, 0, 0)) rfl ?_
  refine pm_go (g := (32, _, [.int 0], _, 0, 0)) rfl ?_
  refine pm_go (g := (34, [(4, .int 0), (3, .int v11_r9), (0, .ref 10), (1, .ref (m + 50)), (2, .ref (o + 50))], [], _, 0, 0)) rfl ?_
  refine pm_sub (lv := [(4, .int 0), (3, .int v11_r9), (0, .ref 10), (1, .ref (m + 50)), (2, .ref (o + 50))]) ?_ ⟨le_c (List.Mem.head _) (le_c (List.Mem.tail _ (List.Mem.head _)) (le_c (List.Mem.tail _ (List.Mem.tail _ (List.Mem.head _))) (le_c (List.Mem.tail _ (List.Mem.tail _ (List.Mem.tail _ (List.Mem.head _)))) (le_c (List.Mem.tail _ (List.Mem.tail _ (List.Mem.tail _ (List.Mem.tail _ (List.Mem.head _))))) le_n)))), (show ([4, 3, 0, 1, 2] : List Nat).Nodup by decide)⟩
  refine f_X6_isUnderAll_10_l (v11_r9) m i_m o i_o q n_q f_q a_m a_o a_q (by omega) 4 0 (by omega) (by omega) (fun h => k0 (fun x q => h x (Nat.zero_le x) ?_)) (fun h => k1 (fun q => h (fun x q1 q2 => q x ?_)))
  · unfold uaB at q; omega
  · unfold uaB; omega
set_option maxRecDepth 100000 in
set_option maxHeartbeats 4000000 in
theorem f_X6_isSpecial_10_l {g c25 c26 c27 c28 c29 c30 c31 c32 c33 c34 c35 c36 c37 c38 c39 c40 c41 c42 c43 c44 c45 c46 c47 c48 c49 : pm_C} {dyn : pm_H} {dOt dNa dRe dMa dMy dPm : Nat → Int32} {xTc : Int32} {xFc : Int32} {xRc : Int32} {xVc : Int32} {xLr : Int32} {xFl : Int32} {xTn : Int32} {xMn : Int32} {xSt : Int64} {xAb : Int64} {xVa : Int64} {xBy : Value} {xBs : Int32} {xF1 : Int32} {xT1 : Int64} {xP1 : Int32} {xD1 : Value} {xA2 : Value} {xF2 : Int32} {xT2 : Int64} {xP2 : Int32} {xD2 : Value} {xTl : Int32} {xCs : Int32} {xCo : Int32} {xCa : Value} {xOl : Int32} {xKn : Int32} {xPa : Nat → Int32} {xUp : Nat → Int32} {xAl : Nat → Option Nat} {xHa : Nat → Int64} {xNm : Nat → Int64} {xKi : Nat → Int32} {xAm : Nat → Int32} {xPl : Nat → Int32} {xGo : Nat → Int32} {xKe : Nat → Int32} {xTo : Nat → Int32} {xFa : Nat → Option Nat} {xRe : Nat → Option Nat} {xVl : Nat → Option Nat} {xAr : Nat → Int32} {Q : pm_Q} (m i_m : Nat) (q n_q : Nat) (f_q : Nat → Int32) (a_m : mbF dOt dNa dRe dMa dMy dPm dyn m i_m) (a_q : isAr dyn q n_q f_q) (p0 : 0 ≤ xF1.toInt ∧ xF1.toInt ≤ 1) (p1 : 0 ≤ xMn.toInt ∧ xMn.toInt ≤ 40) (p2 : alF dOt dNa dRe dMa dMy dPm xMn xAl dyn) : ∀ (n k : Nat), (k ≤ 40) → (40 < k + n) → (spX xUp dMy dPm xT1 xMn ((n_q : Int) - xF1.toInt) xP1 i_m k → Q (some (.int 1)) (hq g (hc1 xTc xFc xRc xVc xLr xFl) (hc2 xTn) (hc3 xPa) (hc4 xUp) (hc5 xMn xSt xAb xVa) (hc6 xAl) (hc7 xHa) (hc8 xNm) (hc9 xBy xBs) (hc10 (.ref (q + 50)) xF1 xT1 xP1 xD1) (hc11 xA2 xF2 xT2 xP2 xD2) (hc12 xTl) (hc13 xKi) (hc14 xAm) (hc15 xPl) (hc16 xCs xCo xCa) (hc17 xGo) (hc18 xOl xKn) (hc19 xKe) (hc20 xTo) (hc21 xFa) (hc22 xRe) (hc23 xVl) (hc24 xAr) c25 c26 c27 c28 c29 c30 c31 c32 c33 c34 c35 c36 c37 c38 c39 c40 c41 c42 c43 c44 c45 c46 c47 c48 c49 dyn)) → (¬ spX xUp dMy dPm xT1 xMn ((n_q : Int) - xF1.toInt) xP1 i_m k → Q (some (.int 0)) (hq g (hc1 xTc xFc xRc xVc xLr xFl) (hc2 xTn) (hc3 xPa) (hc4 xUp) (hc5 xMn xSt xAb xVa) (hc6 xAl) (hc7 xHa) (hc8 xNm) (hc9 xBy xBs) (hc10 (.ref (q + 50)) xF1 xT1 xP1 xD1) (hc11 xA2 xF2 xT2 xP2 xD2) (hc12 xTl) (hc13 xKi) (hc14 xAm) (hc15 xPl) (hc16 xCs xCo xCa) (hc17 xGo) (hc18 xOl xKn) (hc19 xKe) (hc20 xTo) (hc21 xFa) (hc22 xRe) (hc23 xVl) (hc24 xAr) c25 c26 c27 c28 c29 c30 c31 c32 c33 c34 c35 c36 c37 c38 c39 c40 c41 c42 c43 c44 c45 c46 c47 c48 c49 dyn)) → pm_WP 61 (2, [(2, .int (nI k)), (0, .ref 10), (1, .ref (m + 50))], [], hq g (hc1 xTc xFc xRc xVc xLr xFl) (hc2 xTn) (hc3 xPa) (hc4 xUp) (hc5 xMn xSt xAb xVa) (hc6 xAl) (hc7 xHa) (hc8 xNm) (hc9 xBy xBs) (hc10 (.ref (q + 50)) xF1 xT1 xP1 xD1) (hc11 xA2 xF2 xT2 xP2 xD2) (hc12 xTl) (hc13 xKi) (hc14 xAm) (hc15 xPl) (hc16 xCs xCo xCa) (hc17 xGo) (hc18 xOl xKn) (hc19 xKe) (hc20 xTo) (hc21 xFa) (hc22 xRe) (hc23 xVl) (hc24 xAr) c25 c26 c27 c28 c29 c30 c31 c32 c33 c34 c35 c36 c37 c38 c39 c40 c41 c42 c43 c44 c45 c46 c47 c48 c49 dyn, 0, 0) Q := by
  intro n
  induction n with
  | zero =>
    intro k g1 g2 k0 k1
    exfalso; omega
  | succ n ih =>
    intro k g1 g2 k0 k1
    have hk := nI_toInt (n := k) (by omega)
    have hkc : (nI k).toNatClampNeg = k := nI_clamp (by omega)
    obtain ⟨pw1, h2, h3, h4⟩ := id a_m
    obtain ⟨h5, h6⟩ := id a_q
    refine pm_go (g := (3, [(2, .int (nI k)), (0, .ref 10), (1, .ref (m + 50))], [.int (nI k)], hq g (hc1 xTc xFc xRc xVc xLr xFl) (hc2 xTn) (hc3 xPa) (hc4 xUp) (hc5 xMn xSt xAb xVa) (hc6 xAl) (hc7 xHa) (hc8 xNm) (hc9 xBy xBs) (hc10 (.ref (q + 50)) xF1 xT1 xP1 xD1) (hc11 xA2 xF2 xT2 xP2 xD2) (hc12 xTl) (hc13 xKi) (hc14 xAm) (hc15 xPl) (hc16 xCs xCo xCa) (hc17 xGo) (hc18 xOl xKn) (hc19 xKe) (hc20 xTo) (hc21 xFa) (hc22 xRe) (hc23 xVl) (hc24 xAr) c25 c26 c27 c28 c29 c30 c31 c32 c33 c34 c35 c36 c37 c38 c39 c40 c41 c42 c43 c44 c45 c46 c47 c48 c49 dyn, 0, 0)) rfl ?_
    refine pm_go (g := (4, _, [.ref 10, .int (nI k)], _, 0, 0)) rfl ?_
    refine pm_go (g := (7, _, [.ref 5, .int (nI k)], _, 0, 0)) rfl ?_
    refine pm_callD (z := 33) (as := [.ref 5]) (rest := [.int (nI k)]) rfl ?_
    refine f_X4_size  ?_
    show pm_WP 61 (10, [(2, .int (nI k)), (0, .ref 10), (1, .ref (m + 50))], [.int xMn, .int (nI k)], _, 0, 0) _
    refine pm_if2 (g := (48, [(2, .int (nI k)), (0, .ref 10), (1, .ref (m + 50))], [], hq g (hc1 xTc xFc xRc xVc xLr xFl) (hc2 xTn) (hc3 xPa) (hc4 xUp) (hc5 xMn xSt xAb xVa) (hc6 xAl) (hc7 xHa) (hc8 xNm) (hc9 xBy xBs) (hc10 (.ref (q + 50)) xF1 xT1 xP1 xD1) (hc11 xA2 xF2 xT2 xP2 xD2) (hc12 xTl) (hc13 xKi) (hc14 xAm) (hc15 xPl) (hc16 xCs xCo xCa) (hc17 xGo) (hc18 xOl xKn) (hc19 xKe) (hc20 xTo) (hc21 xFa) (hc22 xRe) (hc23 xVl) (hc24 xAr) c25 c26 c27 c28 c29 c30 c31 c32 c33 c34 c35 c36 c37 c38 c39 c40 c41 c42 c43 c44 c45 c46 c47 c48 c49 dyn, 0, 0)) (h := (13, [(2, .int (nI k)), (0, .ref 10), (1, .ref (m + 50))], [], hq g (hc1 xTc xFc xRc xVc xLr xFl) (hc2 xTn) (hc3 xPa) (hc4 xUp) (hc5 xMn xSt xAb xVa) (hc6 xAl) (hc7 xHa) (hc8 xNm) (hc9 xBy xBs) (hc10 (.ref (q + 50)) xF1 xT1 xP1 xD1) (hc11 xA2 xF2 xT2 xP2 xD2) (hc12 xTl) (hc13 xKi) (hc14 xAm) (hc15 xPl) (hc16 xCs xCo xCa) (hc17 xGo) (hc18 xOl xKn) (hc19 xKe) (hc20 xTo) (hc21 xFa) (hc22 xRe) (hc23 xVl) (hc24 xAr) c25 c26 c27 c28 c29 c30 c31 c32 c33 c34 c35 c36 c37 c38 c39 c40 c41 c42 c43 c44 c45 c46 c47 c48 c49 dyn, 0, 0)) rfl (fun h8 => ?_) (fun h8 => ?_)
    ·
      have h8 := qT_ge (cx := (nI k).toInt) (cy := (xMn).toInt) rfl rfl h8
      refine pm_go (g := (49, _, [.int 1], _, 0, 0)) rfl ?_
      exact pm_ret rfl (k0 (fun j q1 q2 => by omega))
    have h8 := qF_ge (cx := (nI k).toInt) (cy := (xMn).toInt) rfl rfl h8
    refine pm_go (g := (14, _, [.ref 10], _, 0, 0)) rfl ?_
    refine pm_go (g := (17, _, [.long xT1], _, 0, 0)) rfl ?_
    refine pm_go (g := (18, _, [.int (nI k), .long xT1], _, 0, 0)) rfl ?_
    refine pm_callD (z := 50) (as := [.long xT1, .int (nI k)]) (rest := []) rfl ?_
    refine f_X4_isIn xT1 (nI k) (by omega) (fun h9 => ?_) (fun h10 => ?_)
    ·
      show pm_WP 61 (21, [(2, .int (nI k)), (0, .ref 10), (1, .ref (m + 50))], [.int 1], _, 0, 0) _
      rw [hkc] at h9
      refine pm_brF (h := (24, [(2, .int (nI k)), (0, .ref 10), (1, .ref (m + 50))], [], hq g (hc1 xTc xFc xRc xVc xLr xFl) (hc2 xTn) (hc3 xPa) (hc4 xUp) (hc5 xMn xSt xAb xVa) (hc6 xAl) (hc7 xHa) (hc8 xNm) (hc9 xBy xBs) (hc10 (.ref (q + 50)) xF1 xT1 xP1 xD1) (hc11 xA2 xF2 xT2 xP2 xD2) (hc12 xTl) (hc13 xKi) (hc14 xAm) (hc15 xPl) (hc16 xCs xCo xCa) (hc17 xGo) (hc18 xOl xKn) (hc19 xKe) (hc20 xTo) (hc21 xFa) (hc22 xRe) (hc23 xVl) (hc24 xAr) c25 c26 c27 c28 c29 c30 c31 c32 c33 c34 c35 c36 c37 c38 c39 c40 c41 c42 c43 c44 c45 c46 c47 c48 c49 dyn, 0, 0)) rfl ?_
      refine pm_go (g := (25, _, [.ref 10], _, 0, 0)) rfl ?_
      refine pm_go (g := (26, _, [.ref (m + 50), .ref 10], _, 0, 0)) rfl ?_
      refine pm_go (g := (27, _, [.ref 10, .ref (m + 50), .ref 10], _, 0, 0)) rfl ?_
      refine pm_go (g := (30, _, [.ref 5, .ref (m + 50), .ref 10], _, 0, 0)) rfl ?_
      refine pm_go (g := (31, _, [.int (nI k), .ref 5, .ref (m + 50), .ref 10], _, 0, 0)) rfl ?_
      refine pm_callD (z := 45) (as := [.ref 5, .int (nI k)]) (rest := [.ref (m + 50), .ref 10]) rfl ?_
      refine f_X4_at (nI k) (by omega) (by first | assumption | rfl) (by omega) (fun v12_j9 h12 => ?_)
      show pm_WP 61 (34, [(2, .int (nI k)), (0, .ref 10), (1, .ref (m + 50))], [.ref (v12_j9 + 50), .ref (m + 50), .ref 10], _, 0, 0) _
      rw [nI_c (by omega)] at h12
      obtain ⟨pw14, h15, h16, h17⟩ := id h12
      refine pm_callD (z := 62) (as := [.ref 10, .ref (m + 50), .ref (v12_j9 + 50)]) (rest := []) rfl ?_
      refine f_X6_isUnderAll_10 m i_m v12_j9 k q n_q f_q a_m h12 ⟨h5, by omega⟩ (by omega) (fun h18 => ?_) (fun h19 => ?_)
      ·
        show pm_WP 61 (37, [(2, .int (nI k)), (0, .ref 10), (1, .ref (m + 50))], [.int 1], _, 0, 0) _
        refine pm_brT (g := (42, [(2, .int (nI k)), (0, .ref 10), (1, .ref (m + 50))], [], hq g (hc1 xTc xFc xRc xVc xLr xFl) (hc2 xTn) (hc3 xPa) (hc4 xUp) (hc5 xMn xSt xAb xVa) (hc6 xAl) (hc7 xHa) (hc8 xNm) (hc9 xBy xBs) (hc10 (.ref (q + 50)) xF1 xT1 xP1 xD1) (hc11 xA2 xF2 xT2 xP2 xD2) (hc12 xTl) (hc13 xKi) (hc14 xAm) (hc15 xPl) (hc16 xCs xCo xCa) (hc17 xGo) (hc18 xOl xKn) (hc19 xKe) (hc20 xTo) (hc21 xFa) (hc22 xRe) (hc23 xVl) (hc24 xAr) c25 c26 c27 c28 c29 c30 c31 c32 c33 c34 c35 c36 c37 c38 c39 c40 c41 c42 c43 c44 c45 c46 c47 c48 c49 dyn, 0, 0)) rfl ?_
        refine pm_go (g := (45, [(2, .int ((nI k) + 1)), (0, .ref 10), (1, .ref (m + 50))], [], _, 0, 0)) rfl ?_
        refine pm_go (g := (2, _, [], _, 0, 0)) rfl ?_
        refine pm_sub (lv := [(2, .int ((nI k) + 1)), (0, .ref 10), (1, .ref (m + 50))]) ?_ ⟨le_c (List.Mem.head _) (le_c (List.Mem.tail _ (List.Mem.head _)) (le_c (List.Mem.tail _ (List.Mem.tail _ (List.Mem.head _))) le_n)), (show ([2, 0, 1] : List Nat).Nodup by decide)⟩
        rw [nI_1]
        refine ih (k + 1) (by omega) (by omega) (fun h => k0 (fun j q1 q2 q3 => ?_)) (fun h => k1 (fun q => h (fun j q1 q2 => q j (by omega) q2)))
        rcases Nat.eq_or_lt_of_le q1 with e9 | e9
        · subst e9; first | assumption | (simp_all; done)
        · exact h j e9 q2 q3
      show pm_WP 61 (37, [(2, .int (nI k)), (0, .ref 10), (1, .ref (m + 50))], [.int 0], hq g (hc1 xTc xFc xRc xVc xLr xFl) (hc2 xTn) (hc3 xPa) (hc4 xUp) (hc5 xMn xSt xAb xVa) (hc6 xAl) (hc7 xHa) (hc8 xNm) (hc9 xBy xBs) (hc10 (.ref (q + 50)) xF1 xT1 xP1 xD1) (hc11 xA2 xF2 xT2 xP2 xD2) (hc12 xTl) (hc13 xKi) (hc14 xAm) (hc15 xPl) (hc16 xCs xCo xCa) (hc17 xGo) (hc18 xOl xKn) (hc19 xKe) (hc20 xTo) (hc21 xFa) (hc22 xRe) (hc23 xVl) (hc24 xAr) c25 c26 c27 c28 c29 c30 c31 c32 c33 c34 c35 c36 c37 c38 c39 c40 c41 c42 c43 c44 c45 c46 c47 c48 c49 dyn, 0, 0) _
      refine pm_brF (h := (40, [(2, .int (nI k)), (0, .ref 10), (1, .ref (m + 50))], [], hq g (hc1 xTc xFc xRc xVc xLr xFl) (hc2 xTn) (hc3 xPa) (hc4 xUp) (hc5 xMn xSt xAb xVa) (hc6 xAl) (hc7 xHa) (hc8 xNm) (hc9 xBy xBs) (hc10 (.ref (q + 50)) xF1 xT1 xP1 xD1) (hc11 xA2 xF2 xT2 xP2 xD2) (hc12 xTl) (hc13 xKi) (hc14 xAm) (hc15 xPl) (hc16 xCs xCo xCa) (hc17 xGo) (hc18 xOl xKn) (hc19 xKe) (hc20 xTo) (hc21 xFa) (hc22 xRe) (hc23 xVl) (hc24 xAr) c25 c26 c27 c28 c29 c30 c31 c32 c33 c34 c35 c36 c37 c38 c39 c40 c41 c42 c43 c44 c45 c46 c47 c48 c49 dyn, 0, 0)) rfl ?_
      refine pm_go (g := (41, _, [.int 0], _, 0, 0)) rfl ?_
      exact pm_ret rfl (k1 (fun q => absurd (q k (Nat.le_refl k) (by omega) (by assumption)) (by assumption)))
    show pm_WP 61 (21, [(2, .int (nI k)), (0, .ref 10), (1, .ref (m + 50))], [.int 0], hq g (hc1 xTc xFc xRc xVc xLr xFl) (hc2 xTn) (hc3 xPa) (hc4 xUp) (hc5 xMn xSt xAb xVa) (hc6 xAl) (hc7 xHa) (hc8 xNm) (hc9 xBy xBs) (hc10 (.ref (q + 50)) xF1 xT1 xP1 xD1) (hc11 xA2 xF2 xT2 xP2 xD2) (hc12 xTl) (hc13 xKi) (hc14 xAm) (hc15 xPl) (hc16 xCs xCo xCa) (hc17 xGo) (hc18 xOl xKn) (hc19 xKe) (hc20 xTo) (hc21 xFa) (hc22 xRe) (hc23 xVl) (hc24 xAr) c25 c26 c27 c28 c29 c30 c31 c32 c33 c34 c35 c36 c37 c38 c39 c40 c41 c42 c43 c44 c45 c46 c47 c48 c49 dyn, 0, 0) _
    rw [hkc] at h10
    refine pm_brT (g := (42, [(2, .int (nI k)), (0, .ref 10), (1, .ref (m + 50))], [], hq g (hc1 xTc xFc xRc xVc xLr xFl) (hc2 xTn) (hc3 xPa) (hc4 xUp) (hc5 xMn xSt xAb xVa) (hc6 xAl) (hc7 xHa) (hc8 xNm) (hc9 xBy xBs) (hc10 (.ref (q + 50)) xF1 xT1 xP1 xD1) (hc11 xA2 xF2 xT2 xP2 xD2) (hc12 xTl) (hc13 xKi) (hc14 xAm) (hc15 xPl) (hc16 xCs xCo xCa) (hc17 xGo) (hc18 xOl xKn) (hc19 xKe) (hc20 xTo) (hc21 xFa) (hc22 xRe) (hc23 xVl) (hc24 xAr) c25 c26 c27 c28 c29 c30 c31 c32 c33 c34 c35 c36 c37 c38 c39 c40 c41 c42 c43 c44 c45 c46 c47 c48 c49 dyn, 0, 0)) rfl ?_
    refine pm_go (g := (45, [(2, .int ((nI k) + 1)), (0, .ref 10), (1, .ref (m + 50))], [], _, 0, 0)) rfl ?_
    refine pm_go (g := (2, _, [], _, 0, 0)) rfl ?_
    refine pm_sub (lv := [(2, .int ((nI k) + 1)), (0, .ref 10), (1, .ref (m + 50))]) ?_ ⟨le_c (List.Mem.head _) (le_c (List.Mem.tail _ (List.Mem.head _)) (le_c (List.Mem.tail _ (List.Mem.tail _ (List.Mem.head _))) le_n)), (show ([2, 0, 1] : List Nat).Nodup by decide)⟩
    rw [nI_1]
    refine ih (k + 1) (by omega) (by omega) (fun h => k0 (fun j q1 q2 q3 => ?_)) (fun h => k1 (fun q => h (fun j q1 q2 => q j (by omega) q2)))
    rcases Nat.eq_or_lt_of_le q1 with e9 | e9
    · subst e9; first | assumption | (simp_all; done)
    · exact h j e9 q2 q3
set_option maxRecDepth 100000 in
set_option maxHeartbeats 4000000 in
theorem f_X6_isSpecial_10 {g c25 c26 c27 c28 c29 c30 c31 c32 c33 c34 c35 c36 c37 c38 c39 c40 c41 c42 c43 c44 c45 c46 c47 c48 c49 : pm_C} {dyn : pm_H} {dOt dNa dRe dMa dMy dPm : Nat → Int32} {xTc : Int32} {xFc : Int32} {xRc : Int32} {xVc : Int32} {xLr : Int32} {xFl : Int32} {xTn : Int32} {xMn : Int32} {xSt : Int64} {xAb : Int64} {xVa : Int64} {xBy : Value} {xBs : Int32} {xF1 : Int32} {xT1 : Int64} {xP1 : Int32} {xD1 : Value} {xA2 : Value} {xF2 : Int32} {xT2 : Int64} {xP2 : Int32} {xD2 : Value} {xTl : Int32} {xCs : Int32} {xCo : Int32} {xCa : Value} {xOl : Int32} {xKn : Int32} {xPa : Nat → Int32} {xUp : Nat → Int32} {xAl : Nat → Option Nat} {xHa : Nat → Int64} {xNm : Nat → Int64} {xKi : Nat → Int32} {xAm : Nat → Int32} {xPl : Nat → Int32} {xGo : Nat → Int32} {xKe : Nat → Int32} {xTo : Nat → Int32} {xFa : Nat → Option Nat} {xRe : Nat → Option Nat} {xVl : Nat → Option Nat} {xAr : Nat → Int32} {Q : pm_Q} (m i_m : Nat) (q n_q : Nat) (f_q : Nat → Int32) (a_m : mbF dOt dNa dRe dMa dMy dPm dyn m i_m) (a_q : isAr dyn q n_q f_q) (p0 : 0 ≤ xF1.toInt ∧ xF1.toInt ≤ 1) (p1 : 0 ≤ xMn.toInt ∧ xMn.toInt ≤ 40) (p2 : alF dOt dNa dRe dMa dMy dPm xMn xAl dyn) (k0 : (spX xUp dMy dPm xT1 xMn ((n_q : Int) - xF1.toInt) xP1 i_m 0) → Q (some (.int 1)) (hq g (hc1 xTc xFc xRc xVc xLr xFl) (hc2 xTn) (hc3 xPa) (hc4 xUp) (hc5 xMn xSt xAb xVa) (hc6 xAl) (hc7 xHa) (hc8 xNm) (hc9 xBy xBs) (hc10 (.ref (q + 50)) xF1 xT1 xP1 xD1) (hc11 xA2 xF2 xT2 xP2 xD2) (hc12 xTl) (hc13 xKi) (hc14 xAm) (hc15 xPl) (hc16 xCs xCo xCa) (hc17 xGo) (hc18 xOl xKn) (hc19 xKe) (hc20 xTo) (hc21 xFa) (hc22 xRe) (hc23 xVl) (hc24 xAr) c25 c26 c27 c28 c29 c30 c31 c32 c33 c34 c35 c36 c37 c38 c39 c40 c41 c42 c43 c44 c45 c46 c47 c48 c49 dyn)) (k1 : (¬ (spX xUp dMy dPm xT1 xMn ((n_q : Int) - xF1.toInt) xP1 i_m 0)) → Q (some (.int 0)) (hq g (hc1 xTc xFc xRc xVc xLr xFl) (hc2 xTn) (hc3 xPa) (hc4 xUp) (hc5 xMn xSt xAb xVa) (hc6 xAl) (hc7 xHa) (hc8 xNm) (hc9 xBy xBs) (hc10 (.ref (q + 50)) xF1 xT1 xP1 xD1) (hc11 xA2 xF2 xT2 xP2 xD2) (hc12 xTl) (hc13 xKi) (hc14 xAm) (hc15 xPl) (hc16 xCs xCo xCa) (hc17 xGo) (hc18 xOl xKn) (hc19 xKe) (hc20 xTo) (hc21 xFa) (hc22 xRe) (hc23 xVl) (hc24 xAr) c25 c26 c27 c28 c29 c30 c31 c32 c33 c34 c35 c36 c37 c38 c39 c40 c41 c42 c43 c44 c45 c46 c47 c48 c49 dyn)) : pm_WP 61 (0, [(0, .ref 10), (1, .ref (m + 50))], [], hq g (hc1 xTc xFc xRc xVc xLr xFl) (hc2 xTn) (hc3 xPa) (hc4 xUp) (hc5 xMn xSt xAb xVa) (hc6 xAl) (hc7 xHa) (hc8 xNm) (hc9 xBy xBs) (hc10 (.ref (q + 50)) xF1 xT1 xP1 xD1) (hc11 xA2 xF2 xT2 xP2 xD2) (hc12 xTl) (hc13 xKi) (hc14 xAm) (hc15 xPl) (hc16 xCs xCo xCa) (hc17 xGo) (hc18 xOl xKn) (hc19 xKe) (hc20 xTo) (hc21 xFa) (hc22 xRe) (hc23 xVl) (hc24 xAr) c25 c26 c27 c28 c29 c30 c31 c32 c33 c34 c35 c36 c37 c38 c39 c40 c41 c42 c43 c44 c45 c46 c47 c48 c49 dyn, 0, 0) Q := by
  obtain ⟨pw1, h2, h3, h4⟩ := id a_m
  obtain ⟨h5, h6⟩ := id a_q
  refine pm_go (g := (1, [(0, .ref 10), (1, .ref (m + 50))], [.int 0], hq g (hc1 xTc xFc xRc xVc xLr xFl) (hc2 xTn) (hc3 xPa) (hc4 xUp) (hc5 xMn xSt xAb xVa) (hc6 xAl) (hc7 xHa) (hc8 xNm) (hc9 xBy xBs) (hc10 (.ref (q + 50)) xF1 xT1 xP1 xD1) (hc11 xA2 xF2 xT2 xP2 xD2) (hc12 xTl) (hc13 xKi) (hc14 xAm) (hc15 xPl) (hc16 xCs xCo xCa) (hc17 xGo) (hc18 xOl xKn) (hc19 xKe) (hc20 xTo) (hc21 xFa) (hc22 xRe) (hc23 xVl) (hc24 xAr) c25 c26 c27 c28 c29 c30 c31 c32 c33 c34 c35 c36 c37 c38 c39 c40 c41 c42 c43 c44 c45 c46 c47 c48 c49 dyn, 0, 0)) rfl ?_
  refine pm_go (g := (2, [(2, .int 0), (0, .ref 10), (1, .ref (m + 50))], [], _, 0, 0)) rfl ?_
  refine pm_sub (lv := [(2, .int 0), (0, .ref 10), (1, .ref (m + 50))]) ?_ ⟨le_c (List.Mem.head _) (le_c (List.Mem.tail _ (List.Mem.head _)) (le_c (List.Mem.tail _ (List.Mem.tail _ (List.Mem.head _))) le_n)), (show ([2, 0, 1] : List Nat).Nodup by decide)⟩
  exact f_X6_isSpecial_10_l m i_m q n_q f_q a_m a_q p0 p1 p2 41 0 (by omega) (by omega) k0 k1
set_option maxRecDepth 100000 in
set_option maxHeartbeats 4000000 in
theorem f_X6_mostSpecial_10_2 {g c25 c26 c27 c28 c29 c30 c31 c32 c33 c34 c35 c36 c37 c38 c39 c40 c41 c42 c43 c44 c45 c46 c47 c48 c49 : pm_C} {dyn : pm_H} {dOt dNa dRe dMa dMy dPm : Nat → Int32} {xTc : Int32} {xFc : Int32} {xRc : Int32} {xVc : Int32} {xLr : Int32} {xFl : Int32} {xTn : Int32} {xMn : Int32} {xSt : Int64} {xAb : Int64} {xVa : Int64} {xBy : Value} {xBs : Int32} {xF1 : Int32} {xT1 : Int64} {xP1 : Int32} {xD1 : Value} {xA2 : Value} {xF2 : Int32} {xT2 : Int64} {xP2 : Int32} {xD2 : Value} {xTl : Int32} {xCs : Int32} {xCo : Int32} {xCa : Value} {xOl : Int32} {xKn : Int32} {xPa : Nat → Int32} {xUp : Nat → Int32} {xAl : Nat → Option Nat} {xHa : Nat → Int64} {xNm : Nat → Int64} {xKi : Nat → Int32} {xAm : Nat → Int32} {xPl : Nat → Int32} {xGo : Nat → Int32} {xKe : Nat → Int32} {xTo : Nat → Int32} {xFa : Nat → Option Nat} {xRe : Nat → Option Nat} {xVl : Nat → Option Nat} {xAr : Nat → Int32} {Q : pm_Q} (o i_o : Nat) (q n_q : Nat) (f_q : Nat → Int32) (a_o : mbF dOt dNa dRe dMa dMy dPm dyn o i_o) (a_q : isAr dyn q n_q f_q) (p0 : 0 ≤ xF1.toInt ∧ xF1.toInt ≤ 1) (p1 : 0 ≤ xMn.toInt ∧ xMn.toInt ≤ 40) (p2 : alF dOt dNa dRe dMa dMy dPm xMn xAl dyn) : ∀ (n k : Nat), ((k : Int) ≤ xMn.toInt) → (40 < k + n) → (i_o < k) → ((fun b => bl xT1 b = true ∧ spX xUp dMy dPm xT1 xMn ((n_q : Int) - xF1.toInt) xP1 b 0) i_o) → (∀ j : Nat, j < k → (fun b => bl xT1 b = true ∧ spX xUp dMy dPm xT1 xMn ((n_q : Int) - xF1.toInt) xP1 b 0) j → j = i_o) → ((¬ ∃ b : Nat, oneP (fun b => bl xT1 b = true ∧ spX xUp dMy dPm xT1 xMn ((n_q : Int) - xF1.toInt) xP1 b 0) xMn b) → Q (some .null) (hq g (hc1 xTc xFc xRc xVc xLr xFl) (hc2 xTn) (hc3 xPa) (hc4 xUp) (hc5 xMn xSt xAb xVa) (hc6 xAl) (hc7 xHa) (hc8 xNm) (hc9 xBy xBs) (hc10 (.ref (q + 50)) xF1 xT1 xP1 xD1) (hc11 xA2 xF2 xT2 xP2 xD2) (hc12 xTl) (hc13 xKi) (hc14 xAm) (hc15 xPl) (hc16 xCs xCo xCa) (hc17 xGo) (hc18 xOl xKn) (hc19 xKe) (hc20 xTo) (hc21 xFa) (hc22 xRe) (hc23 xVl) (hc24 xAr) c25 c26 c27 c28 c29 c30 c31 c32 c33 c34 c35 c36 c37 c38 c39 c40 c41 c42 c43 c44 c45 c46 c47 c48 c49 dyn)) → (∀ j9 b9 : Nat, mbF dOt dNa dRe dMa dMy dPm dyn j9 b9 → oneP (fun b => bl xT1 b = true ∧ spX xUp dMy dPm xT1 xMn ((n_q : Int) - xF1.toInt) xP1 b 0) xMn b9 → Q (some (.ref (j9 + 50))) (hq g (hc1 xTc xFc xRc xVc xLr xFl) (hc2 xTn) (hc3 xPa) (hc4 xUp) (hc5 xMn xSt xAb xVa) (hc6 xAl) (hc7 xHa) (hc8 xNm) (hc9 xBy xBs) (hc10 (.ref (q + 50)) xF1 xT1 xP1 xD1) (hc11 xA2 xF2 xT2 xP2 xD2) (hc12 xTl) (hc13 xKi) (hc14 xAm) (hc15 xPl) (hc16 xCs xCo xCa) (hc17 xGo) (hc18 xOl xKn) (hc19 xKe) (hc20 xTo) (hc21 xFa) (hc22 xRe) (hc23 xVl) (hc24 xAr) c25 c26 c27 c28 c29 c30 c31 c32 c33 c34 c35 c36 c37 c38 c39 c40 c41 c42 c43 c44 c45 c46 c47 c48 c49 dyn)) → pm_WP 60 (4, [(2, .int (nI k)), (1, .ref (o + 50)), (0, .ref 10)], [], hq g (hc1 xTc xFc xRc xVc xLr xFl) (hc2 xTn) (hc3 xPa) (hc4 xUp) (hc5 xMn xSt xAb xVa) (hc6 xAl) (hc7 xHa) (hc8 xNm) (hc9 xBy xBs) (hc10 (.ref (q + 50)) xF1 xT1 xP1 xD1) (hc11 xA2 xF2 xT2 xP2 xD2) (hc12 xTl) (hc13 xKi) (hc14 xAm) (hc15 xPl) (hc16 xCs xCo xCa) (hc17 xGo) (hc18 xOl xKn) (hc19 xKe) (hc20 xTo) (hc21 xFa) (hc22 xRe) (hc23 xVl) (hc24 xAr) c25 c26 c27 c28 c29 c30 c31 c32 c33 c34 c35 c36 c37 c38 c39 c40 c41 c42 c43 c44 c45 c46 c47 c48 c49 dyn, 0, 0) Q := by
  intro n
  induction n with
  | zero =>
    intro k g1 g2 g3 g4 g5 k0 k1
    exfalso; omega
  | succ n ih =>
    intro k g1 g2 g3 g4 g5 k0 k1
    have hk := nI_toInt (n := k) (by omega)
    have hkc : (nI k).toNatClampNeg = k := nI_clamp (by omega)
    obtain ⟨pw1, h2, h3, h4⟩ := id a_o
    obtain ⟨h5, h6⟩ := id a_q
    refine pm_go (g := (5, [(2, .int (nI k)), (1, .ref (o + 50)), (0, .ref 10)], [.int (nI k)], hq g (hc1 xTc xFc xRc xVc xLr xFl) (hc2 xTn) (hc3 xPa) (hc4 xUp) (hc5 xMn xSt xAb xVa) (hc6 xAl) (hc7 xHa) (hc8 xNm) (hc9 xBy xBs) (hc10 (.ref (q + 50)) xF1 xT1 xP1 xD1) (hc11 xA2 xF2 xT2 xP2 xD2) (hc12 xTl) (hc13 xKi) (hc14 xAm) (hc15 xPl) (hc16 xCs xCo xCa) (hc17 xGo) (hc18 xOl xKn) (hc19 xKe) (hc20 xTo) (hc21 xFa) (hc22 xRe) (hc23 xVl) (hc24 xAr) c25 c26 c27 c28 c29 c30 c31 c32 c33 c34 c35 c36 c37 c38 c39 c40 c41 c42 c43 c44 c45 c46 c47 c48 c49 dyn, 0, 0)) rfl ?_
    refine pm_go (g := (6, _, [.ref 10, .int (nI k)], _, 0, 0)) rfl ?_
    refine pm_go (g := (9, _, [.ref 5, .int (nI k)], _, 0, 0)) rfl ?_
    refine pm_callD (z := 33) (as := [.ref 5]) (rest := [.int (nI k)]) rfl ?_
    refine f_X4_size  ?_
    show pm_WP 60 (12, [(2, .int (nI k)), (1, .ref (o + 50)), (0, .ref 10)], [.int xMn, .int (nI k)], _, 0, 0) _
    refine pm_if2 (g := (62, [(2, .int (nI k)), (1, .ref (o + 50)), (0, .ref 10)], [], hq g (hc1 xTc xFc xRc xVc xLr xFl) (hc2 xTn) (hc3 xPa) (hc4 xUp) (hc5 xMn xSt xAb xVa) (hc6 xAl) (hc7 xHa) (hc8 xNm) (hc9 xBy xBs) (hc10 (.ref (q + 50)) xF1 xT1 xP1 xD1) (hc11 xA2 xF2 xT2 xP2 xD2) (hc12 xTl) (hc13 xKi) (hc14 xAm) (hc15 xPl) (hc16 xCs xCo xCa) (hc17 xGo) (hc18 xOl xKn) (hc19 xKe) (hc20 xTo) (hc21 xFa) (hc22 xRe) (hc23 xVl) (hc24 xAr) c25 c26 c27 c28 c29 c30 c31 c32 c33 c34 c35 c36 c37 c38 c39 c40 c41 c42 c43 c44 c45 c46 c47 c48 c49 dyn, 0, 0)) (h := (15, [(2, .int (nI k)), (1, .ref (o + 50)), (0, .ref 10)], [], hq g (hc1 xTc xFc xRc xVc xLr xFl) (hc2 xTn) (hc3 xPa) (hc4 xUp) (hc5 xMn xSt xAb xVa) (hc6 xAl) (hc7 xHa) (hc8 xNm) (hc9 xBy xBs) (hc10 (.ref (q + 50)) xF1 xT1 xP1 xD1) (hc11 xA2 xF2 xT2 xP2 xD2) (hc12 xTl) (hc13 xKi) (hc14 xAm) (hc15 xPl) (hc16 xCs xCo xCa) (hc17 xGo) (hc18 xOl xKn) (hc19 xKe) (hc20 xTo) (hc21 xFa) (hc22 xRe) (hc23 xVl) (hc24 xAr) c25 c26 c27 c28 c29 c30 c31 c32 c33 c34 c35 c36 c37 c38 c39 c40 c41 c42 c43 c44 c45 c46 c47 c48 c49 dyn, 0, 0)) rfl (fun h8 => ?_) (fun h8 => ?_)
    ·
      have h8 := qT_ge (cx := (nI k).toInt) (cy := (xMn).toInt) rfl rfl h8
      refine pm_go (g := (63, _, [.ref (o + 50)], _, 0, 0)) rfl ?_
      exact pm_ret rfl (k1 _ _ a_o ⟨by omega, g4, fun j q1 q2 => g5 j (by omega) q2⟩)
    have h8 := qF_ge (cx := (nI k).toInt) (cy := (xMn).toInt) rfl rfl h8
    refine pm_go (g := (16, _, [.ref 10], _, 0, 0)) rfl ?_
    refine pm_go (g := (19, _, [.long xT1], _, 0, 0)) rfl ?_
    refine pm_go (g := (20, _, [.int (nI k), .long xT1], _, 0, 0)) rfl ?_
    refine pm_callD (z := 50) (as := [.long xT1, .int (nI k)]) (rest := []) rfl ?_
    refine f_X4_isIn xT1 (nI k) (by omega) (fun h9 => ?_) (fun h10 => ?_)
    ·
      show pm_WP 60 (23, [(2, .int (nI k)), (1, .ref (o + 50)), (0, .ref 10)], [.int 1], _, 0, 0) _
      rw [hkc] at h9
      refine pm_brF (h := (26, [(2, .int (nI k)), (1, .ref (o + 50)), (0, .ref 10)], [], hq g (hc1 xTc xFc xRc xVc xLr xFl) (hc2 xTn) (hc3 xPa) (hc4 xUp) (hc5 xMn xSt xAb xVa) (hc6 xAl) (hc7 xHa) (hc8 xNm) (hc9 xBy xBs) (hc10 (.ref (q + 50)) xF1 xT1 xP1 xD1) (hc11 xA2 xF2 xT2 xP2 xD2) (hc12 xTl) (hc13 xKi) (hc14 xAm) (hc15 xPl) (hc16 xCs xCo xCa) (hc17 xGo) (hc18 xOl xKn) (hc19 xKe) (hc20 xTo) (hc21 xFa) (hc22 xRe) (hc23 xVl) (hc24 xAr) c25 c26 c27 c28 c29 c30 c31 c32 c33 c34 c35 c36 c37 c38 c39 c40 c41 c42 c43 c44 c45 c46 c47 c48 c49 dyn, 0, 0)) rfl ?_
      refine pm_go (g := (27, _, [.ref 10], _, 0, 0)) rfl ?_
      refine pm_go (g := (28, _, [.ref 10, .ref 10], _, 0, 0)) rfl ?_
      refine pm_go (g := (31, _, [.ref 5, .ref 10], _, 0, 0)) rfl ?_
      refine pm_go (g := (32, _, [.int (nI k), .ref 5, .ref 10], _, 0, 0)) rfl ?_
      refine pm_callD (z := 45) (as := [.ref 5, .int (nI k)]) (rest := [.ref 10]) rfl ?_
      refine f_X4_at (nI k) (by omega) (by first | assumption | rfl) (by omega) (fun v12_j9 h12 => ?_)
      show pm_WP 60 (35, [(2, .int (nI k)), (1, .ref (o + 50)), (0, .ref 10)], [.ref (v12_j9 + 50), .ref 10], _, 0, 0) _
      rw [nI_c (by omega)] at h12
      obtain ⟨pw14, h15, h16, h17⟩ := id h12
      refine pm_callD (z := 61) (as := [.ref 10, .ref (v12_j9 + 50)]) (rest := []) rfl ?_
      refine f_X6_isSpecial_10 v12_j9 k q n_q f_q h12 ⟨h5, by omega⟩ (by omega) (by omega) (by first | assumption | rfl) (fun h18 => ?_) (fun h19 => ?_)
      ·
        show pm_WP 60 (38, [(2, .int (nI k)), (1, .ref (o + 50)), (0, .ref 10)], [.int 1], _, 0, 0) _
        refine pm_brF (h := (41, [(2, .int (nI k)), (1, .ref (o + 50)), (0, .ref 10)], [], hq g (hc1 xTc xFc xRc xVc xLr xFl) (hc2 xTn) (hc3 xPa) (hc4 xUp) (hc5 xMn xSt xAb xVa) (hc6 xAl) (hc7 xHa) (hc8 xNm) (hc9 xBy xBs) (hc10 (.ref (q + 50)) xF1 xT1 xP1 xD1) (hc11 xA2 xF2 xT2 xP2 xD2) (hc12 xTl) (hc13 xKi) (hc14 xAm) (hc15 xPl) (hc16 xCs xCo xCa) (hc17 xGo) (hc18 xOl xKn) (hc19 xKe) (hc20 xTo) (hc21 xFa) (hc22 xRe) (hc23 xVl) (hc24 xAr) c25 c26 c27 c28 c29 c30 c31 c32 c33 c34 c35 c36 c37 c38 c39 c40 c41 c42 c43 c44 c45 c46 c47 c48 c49 dyn, 0, 0)) rfl ?_
        refine pm_go (g := (42, _, [.ref (o + 50)], _, 0, 0)) rfl ?_
        refine pm_go (g := (45, _, [], _, 0, 0)) rfl ?_
        refine pm_go (g := (46, _, [.null], _, 0, 0)) rfl ?_
        refine pm_ret rfl (k0 ?_)
        rintro ⟨b, q1, q2, q3⟩
        have e1 := q3 i_o (by omega) g4
        have e2 := q3 k (by omega) ⟨by assumption, by assumption⟩
        omega
      show pm_WP 60 (38, [(2, .int (nI k)), (1, .ref (o + 50)), (0, .ref 10)], [.int 0], hq g (hc1 xTc xFc xRc xVc xLr xFl) (hc2 xTn) (hc3 xPa) (hc4 xUp) (hc5 xMn xSt xAb xVa) (hc6 xAl) (hc7 xHa) (hc8 xNm) (hc9 xBy xBs) (hc10 (.ref (q + 50)) xF1 xT1 xP1 xD1) (hc11 xA2 xF2 xT2 xP2 xD2) (hc12 xTl) (hc13 xKi) (hc14 xAm) (hc15 xPl) (hc16 xCs xCo xCa) (hc17 xGo) (hc18 xOl xKn) (hc19 xKe) (hc20 xTo) (hc21 xFa) (hc22 xRe) (hc23 xVl) (hc24 xAr) c25 c26 c27 c28 c29 c30 c31 c32 c33 c34 c35 c36 c37 c38 c39 c40 c41 c42 c43 c44 c45 c46 c47 c48 c49 dyn, 0, 0) _
      refine pm_brT (g := (56, [(2, .int (nI k)), (1, .ref (o + 50)), (0, .ref 10)], [], hq g (hc1 xTc xFc xRc xVc xLr xFl) (hc2 xTn) (hc3 xPa) (hc4 xUp) (hc5 xMn xSt xAb xVa) (hc6 xAl) (hc7 xHa) (hc8 xNm) (hc9 xBy xBs) (hc10 (.ref (q + 50)) xF1 xT1 xP1 xD1) (hc11 xA2 xF2 xT2 xP2 xD2) (hc12 xTl) (hc13 xKi) (hc14 xAm) (hc15 xPl) (hc16 xCs xCo xCa) (hc17 xGo) (hc18 xOl xKn) (hc19 xKe) (hc20 xTo) (hc21 xFa) (hc22 xRe) (hc23 xVl) (hc24 xAr) c25 c26 c27 c28 c29 c30 c31 c32 c33 c34 c35 c36 c37 c38 c39 c40 c41 c42 c43 c44 c45 c46 c47 c48 c49 dyn, 0, 0)) rfl ?_
      refine pm_go (g := (59, [(2, .int ((nI k) + 1)), (1, .ref (o + 50)), (0, .ref 10)], [], _, 0, 0)) rfl ?_
      refine pm_go (g := (4, _, [], _, 0, 0)) rfl ?_
      refine pm_sub (lv := [(2, .int ((nI k) + 1)), (1, .ref (o + 50)), (0, .ref 10)]) ?_ ⟨le_c (List.Mem.head _) (le_c (List.Mem.tail _ (List.Mem.head _)) (le_c (List.Mem.tail _ (List.Mem.tail _ (List.Mem.head _))) le_n)), (show ([2, 1, 0] : List Nat).Nodup by decide)⟩
      rw [nI_1]
      refine ih (k + 1) (by omega) (by omega) (by omega) g4 (fun j q1 q2 => ?_) k0 k1
      rcases Nat.lt_succ_iff_lt_or_eq.mp q1 with q | q
      · exact g5 j q q2
      · subst q; exfalso; first | exact absurd q2.2 (by assumption) | (simp_all; done)
    show pm_WP 60 (23, [(2, .int (nI k)), (1, .ref (o + 50)), (0, .ref 10)], [.int 0], hq g (hc1 xTc xFc xRc xVc xLr xFl) (hc2 xTn) (hc3 xPa) (hc4 xUp) (hc5 xMn xSt xAb xVa) (hc6 xAl) (hc7 xHa) (hc8 xNm) (hc9 xBy xBs) (hc10 (.ref (q + 50)) xF1 xT1 xP1 xD1) (hc11 xA2 xF2 xT2 xP2 xD2) (hc12 xTl) (hc13 xKi) (hc14 xAm) (hc15 xPl) (hc16 xCs xCo xCa) (hc17 xGo) (hc18 xOl xKn) (hc19 xKe) (hc20 xTo) (hc21 xFa) (hc22 xRe) (hc23 xVl) (hc24 xAr) c25 c26 c27 c28 c29 c30 c31 c32 c33 c34 c35 c36 c37 c38 c39 c40 c41 c42 c43 c44 c45 c46 c47 c48 c49 dyn, 0, 0) _
    rw [hkc] at h10
    refine pm_brT (g := (56, [(2, .int (nI k)), (1, .ref (o + 50)), (0, .ref 10)], [], hq g (hc1 xTc xFc xRc xVc xLr xFl) (hc2 xTn) (hc3 xPa) (hc4 xUp) (hc5 xMn xSt xAb xVa) (hc6 xAl) (hc7 xHa) (hc8 xNm) (hc9 xBy xBs) (hc10 (.ref (q + 50)) xF1 xT1 xP1 xD1) (hc11 xA2 xF2 xT2 xP2 xD2) (hc12 xTl) (hc13 xKi) (hc14 xAm) (hc15 xPl) (hc16 xCs xCo xCa) (hc17 xGo) (hc18 xOl xKn) (hc19 xKe) (hc20 xTo) (hc21 xFa) (hc22 xRe) (hc23 xVl) (hc24 xAr) c25 c26 c27 c28 c29 c30 c31 c32 c33 c34 c35 c36 c37 c38 c39 c40 c41 c42 c43 c44 c45 c46 c47 c48 c49 dyn, 0, 0)) rfl ?_
    refine pm_go (g := (59, [(2, .int ((nI k) + 1)), (1, .ref (o + 50)), (0, .ref 10)], [], _, 0, 0)) rfl ?_
    refine pm_go (g := (4, _, [], _, 0, 0)) rfl ?_
    refine pm_sub (lv := [(2, .int ((nI k) + 1)), (1, .ref (o + 50)), (0, .ref 10)]) ?_ ⟨le_c (List.Mem.head _) (le_c (List.Mem.tail _ (List.Mem.head _)) (le_c (List.Mem.tail _ (List.Mem.tail _ (List.Mem.head _))) le_n)), (show ([2, 1, 0] : List Nat).Nodup by decide)⟩
    rw [nI_1]
    refine ih (k + 1) (by omega) (by omega) (by omega) g4 (fun j q1 q2 => ?_) k0 k1
    rcases Nat.lt_succ_iff_lt_or_eq.mp q1 with q | q
    · exact g5 j q q2
    · subst q; exfalso; first | exact absurd q2.2 (by assumption) | (simp_all; done)
set_option maxRecDepth 100000 in
set_option maxHeartbeats 4000000 in
theorem f_X6_mostSpecial_10_1 {g c25 c26 c27 c28 c29 c30 c31 c32 c33 c34 c35 c36 c37 c38 c39 c40 c41 c42 c43 c44 c45 c46 c47 c48 c49 : pm_C} {dyn : pm_H} {dOt dNa dRe dMa dMy dPm : Nat → Int32} {xTc : Int32} {xFc : Int32} {xRc : Int32} {xVc : Int32} {xLr : Int32} {xFl : Int32} {xTn : Int32} {xMn : Int32} {xSt : Int64} {xAb : Int64} {xVa : Int64} {xBy : Value} {xBs : Int32} {xF1 : Int32} {xT1 : Int64} {xP1 : Int32} {xD1 : Value} {xA2 : Value} {xF2 : Int32} {xT2 : Int64} {xP2 : Int32} {xD2 : Value} {xTl : Int32} {xCs : Int32} {xCo : Int32} {xCa : Value} {xOl : Int32} {xKn : Int32} {xPa : Nat → Int32} {xUp : Nat → Int32} {xAl : Nat → Option Nat} {xHa : Nat → Int64} {xNm : Nat → Int64} {xKi : Nat → Int32} {xAm : Nat → Int32} {xPl : Nat → Int32} {xGo : Nat → Int32} {xKe : Nat → Int32} {xTo : Nat → Int32} {xFa : Nat → Option Nat} {xRe : Nat → Option Nat} {xVl : Nat → Option Nat} {xAr : Nat → Int32} {Q : pm_Q} (q n_q : Nat) (f_q : Nat → Int32) (a_q : isAr dyn q n_q f_q) (p0 : 0 ≤ xF1.toInt ∧ xF1.toInt ≤ 1) (p1 : 0 ≤ xMn.toInt ∧ xMn.toInt ≤ 40) (p2 : alF dOt dNa dRe dMa dMy dPm xMn xAl dyn) : ∀ (n k : Nat), ((k : Int) ≤ xMn.toInt) → (40 < k + n) → (∀ j : Nat, j < k → ¬ (fun b => bl xT1 b = true ∧ spX xUp dMy dPm xT1 xMn ((n_q : Int) - xF1.toInt) xP1 b 0) j) → ((¬ ∃ b : Nat, oneP (fun b => bl xT1 b = true ∧ spX xUp dMy dPm xT1 xMn ((n_q : Int) - xF1.toInt) xP1 b 0) xMn b) → Q (some .null) (hq g (hc1 xTc xFc xRc xVc xLr xFl) (hc2 xTn) (hc3 xPa) (hc4 xUp) (hc5 xMn xSt xAb xVa) (hc6 xAl) (hc7 xHa) (hc8 xNm) (hc9 xBy xBs) (hc10 (.ref (q + 50)) xF1 xT1 xP1 xD1) (hc11 xA2 xF2 xT2 xP2 xD2) (hc12 xTl) (hc13 xKi) (hc14 xAm) (hc15 xPl) (hc16 xCs xCo xCa) (hc17 xGo) (hc18 xOl xKn) (hc19 xKe) (hc20 xTo) (hc21 xFa) (hc22 xRe) (hc23 xVl) (hc24 xAr) c25 c26 c27 c28 c29 c30 c31 c32 c33 c34 c35 c36 c37 c38 c39 c40 c41 c42 c43 c44 c45 c46 c47 c48 c49 dyn)) → (∀ j9 b9 : Nat, mbF dOt dNa dRe dMa dMy dPm dyn j9 b9 → oneP (fun b => bl xT1 b = true ∧ spX xUp dMy dPm xT1 xMn ((n_q : Int) - xF1.toInt) xP1 b 0) xMn b9 → Q (some (.ref (j9 + 50))) (hq g (hc1 xTc xFc xRc xVc xLr xFl) (hc2 xTn) (hc3 xPa) (hc4 xUp) (hc5 xMn xSt xAb xVa) (hc6 xAl) (hc7 xHa) (hc8 xNm) (hc9 xBy xBs) (hc10 (.ref (q + 50)) xF1 xT1 xP1 xD1) (hc11 xA2 xF2 xT2 xP2 xD2) (hc12 xTl) (hc13 xKi) (hc14 xAm) (hc15 xPl) (hc16 xCs xCo xCa) (hc17 xGo) (hc18 xOl xKn) (hc19 xKe) (hc20 xTo) (hc21 xFa) (hc22 xRe) (hc23 xVl) (hc24 xAr) c25 c26 c27 c28 c29 c30 c31 c32 c33 c34 c35 c36 c37 c38 c39 c40 c41 c42 c43 c44 c45 c46 c47 c48 c49 dyn)) → pm_WP 60 (4, [(2, .int (nI k)), (1, .null), (0, .ref 10)], [], hq g (hc1 xTc xFc xRc xVc xLr xFl) (hc2 xTn) (hc3 xPa) (hc4 xUp) (hc5 xMn xSt xAb xVa) (hc6 xAl) (hc7 xHa) (hc8 xNm) (hc9 xBy xBs) (hc10 (.ref (q + 50)) xF1 xT1 xP1 xD1) (hc11 xA2 xF2 xT2 xP2 xD2) (hc12 xTl) (hc13 xKi) (hc14 xAm) (hc15 xPl) (hc16 xCs xCo xCa) (hc17 xGo) (hc18 xOl xKn) (hc19 xKe) (hc20 xTo) (hc21 xFa) (hc22 xRe) (hc23 xVl) (hc24 xAr) c25 c26 c27 c28 c29 c30 c31 c32 c33 c34 c35 c36 c37 c38 c39 c40 c41 c42 c43 c44 c45 c46 c47 c48 c49 dyn, 0, 0) Q := by
  intro n
  induction n with
  | zero =>
    intro k g1 g2 g3 k0 k1
    exfalso; omega
  | succ n ih =>
    intro k g1 g2 g3 k0 k1
    have hk := nI_toInt (n := k) (by omega)
    have hkc : (nI k).toNatClampNeg = k := nI_clamp (by omega)
    obtain ⟨h1, h2⟩ := id a_q
    refine pm_go (g := (5, [(2, .int (nI k)), (1, .null), (0, .ref 10)], [.int (nI k)], hq g (hc1 xTc xFc xRc xVc xLr xFl) (hc2 xTn) (hc3 xPa) (hc4 xUp) (hc5 xMn xSt xAb xVa) (hc6 xAl) (hc7 xHa) (hc8 xNm) (hc9 xBy xBs) (hc10 (.ref (q + 50)) xF1 xT1 xP1 xD1) (hc11 xA2 xF2 xT2 xP2 xD2) (hc12 xTl) (hc13 xKi) (hc14 xAm) (hc15 xPl) (hc16 xCs xCo xCa) (hc17 xGo) (hc18 xOl xKn) (hc19 xKe) (hc20 xTo) (hc21 xFa) (hc22 xRe) (hc23 xVl) (hc24 xAr) c25 c26 c27 c28 c29 c30 c31 c32 c33 c34 c35 c36 c37 c38 c39 c40 c41 c42 c43 c44 c45 c46 c47 c48 c49 dyn, 0, 0)) rfl ?_
    refine pm_go (g := (6, _, [.ref 10, .int (nI k)], _, 0, 0)) rfl ?_
    refine pm_go (g := (9, _, [.ref 5, .int (nI k)], _, 0, 0)) rfl ?_
    refine pm_callD (z := 33) (as := [.ref 5]) (rest := [.int (nI k)]) rfl ?_
    refine f_X4_size  ?_
    show pm_WP 60 (12, [(2, .int (nI k)), (1, .null), (0, .ref 10)], [.int xMn, .int (nI k)], _, 0, 0) _
    refine pm_if2 (g := (62, [(2, .int (nI k)), (1, .null), (0, .ref 10)], [], hq g (hc1 xTc xFc xRc xVc xLr xFl) (hc2 xTn) (hc3 xPa) (hc4 xUp) (hc5 xMn xSt xAb xVa) (hc6 xAl) (hc7 xHa) (hc8 xNm) (hc9 xBy xBs) (hc10 (.ref (q + 50)) xF1 xT1 xP1 xD1) (hc11 xA2 xF2 xT2 xP2 xD2) (hc12 xTl) (hc13 xKi) (hc14 xAm) (hc15 xPl) (hc16 xCs xCo xCa) (hc17 xGo) (hc18 xOl xKn) (hc19 xKe) (hc20 xTo) (hc21 xFa) (hc22 xRe) (hc23 xVl) (hc24 xAr) c25 c26 c27 c28 c29 c30 c31 c32 c33 c34 c35 c36 c37 c38 c39 c40 c41 c42 c43 c44 c45 c46 c47 c48 c49 dyn, 0, 0)) (h := (15, [(2, .int (nI k)), (1, .null), (0, .ref 10)], [], hq g (hc1 xTc xFc xRc xVc xLr xFl) (hc2 xTn) (hc3 xPa) (hc4 xUp) (hc5 xMn xSt xAb xVa) (hc6 xAl) (hc7 xHa) (hc8 xNm) (hc9 xBy xBs) (hc10 (.ref (q + 50)) xF1 xT1 xP1 xD1) (hc11 xA2 xF2 xT2 xP2 xD2) (hc12 xTl) (hc13 xKi) (hc14 xAm) (hc15 xPl) (hc16 xCs xCo xCa) (hc17 xGo) (hc18 xOl xKn) (hc19 xKe) (hc20 xTo) (hc21 xFa) (hc22 xRe) (hc23 xVl) (hc24 xAr) c25 c26 c27 c28 c29 c30 c31 c32 c33 c34 c35 c36 c37 c38 c39 c40 c41 c42 c43 c44 c45 c46 c47 c48 c49 dyn, 0, 0)) rfl (fun h4 => ?_) (fun h4 => ?_)
    ·
      have h4 := qT_ge (cx := (nI k).toInt) (cy := (xMn).toInt) rfl rfl h4
      refine pm_go (g := (63, _, [.null], _, 0, 0)) rfl ?_
      refine pm_ret rfl (k0 ?_)
      rintro ⟨b, q1, q2, q3⟩
      exact g3 b (by omega) q2
    have h4 := qF_ge (cx := (nI k).toInt) (cy := (xMn).toInt) rfl rfl h4
    refine pm_go (g := (16, _, [.ref 10], _, 0, 0)) rfl ?_
    refine pm_go (g := (19, _, [.long xT1], _, 0, 0)) rfl ?_
    refine pm_go (g := (20, _, [.int (nI k), .long xT1], _, 0, 0)) rfl ?_
    refine pm_callD (z := 50) (as := [.long xT1, .int (nI k)]) (rest := []) rfl ?_
    refine f_X4_isIn xT1 (nI k) (by omega) (fun h5 => ?_) (fun h6 => ?_)
    ·
      show pm_WP 60 (23, [(2, .int (nI k)), (1, .null), (0, .ref 10)], [.int 1], _, 0, 0) _
      rw [hkc] at h5
      refine pm_brF (h := (26, [(2, .int (nI k)), (1, .null), (0, .ref 10)], [], hq g (hc1 xTc xFc xRc xVc xLr xFl) (hc2 xTn) (hc3 xPa) (hc4 xUp) (hc5 xMn xSt xAb xVa) (hc6 xAl) (hc7 xHa) (hc8 xNm) (hc9 xBy xBs) (hc10 (.ref (q + 50)) xF1 xT1 xP1 xD1) (hc11 xA2 xF2 xT2 xP2 xD2) (hc12 xTl) (hc13 xKi) (hc14 xAm) (hc15 xPl) (hc16 xCs xCo xCa) (hc17 xGo) (hc18 xOl xKn) (hc19 xKe) (hc20 xTo) (hc21 xFa) (hc22 xRe) (hc23 xVl) (hc24 xAr) c25 c26 c27 c28 c29 c30 c31 c32 c33 c34 c35 c36 c37 c38 c39 c40 c41 c42 c43 c44 c45 c46 c47 c48 c49 dyn, 0, 0)) rfl ?_
      refine pm_go (g := (27, _, [.ref 10], _, 0, 0)) rfl ?_
      refine pm_go (g := (28, _, [.ref 10, .ref 10], _, 0, 0)) rfl ?_
      refine pm_go (g := (31, _, [.ref 5, .ref 10], _, 0, 0)) rfl ?_
      refine pm_go (g := (32, _, [.int (nI k), .ref 5, .ref 10], _, 0, 0)) rfl ?_
      refine pm_callD (z := 45) (as := [.ref 5, .int (nI k)]) (rest := [.ref 10]) rfl ?_
      refine f_X4_at (nI k) (by omega) (by first | assumption | rfl) (by omega) (fun v8_j9 h8 => ?_)
      show pm_WP 60 (35, [(2, .int (nI k)), (1, .null), (0, .ref 10)], [.ref (v8_j9 + 50), .ref 10], _, 0, 0) _
      rw [nI_c (by omega)] at h8
      obtain ⟨pw10, h11, h12, h13⟩ := id h8
      refine pm_callD (z := 61) (as := [.ref 10, .ref (v8_j9 + 50)]) (rest := []) rfl ?_
      refine f_X6_isSpecial_10 v8_j9 k q n_q f_q h8 ⟨h1, by omega⟩ (by omega) (by omega) (by first | assumption | rfl) (fun h14 => ?_) (fun h15 => ?_)
      ·
        show pm_WP 60 (38, [(2, .int (nI k)), (1, .null), (0, .ref 10)], [.int 1], _, 0, 0) _
        refine pm_brF (h := (41, [(2, .int (nI k)), (1, .null), (0, .ref 10)], [], hq g (hc1 xTc xFc xRc xVc xLr xFl) (hc2 xTn) (hc3 xPa) (hc4 xUp) (hc5 xMn xSt xAb xVa) (hc6 xAl) (hc7 xHa) (hc8 xNm) (hc9 xBy xBs) (hc10 (.ref (q + 50)) xF1 xT1 xP1 xD1) (hc11 xA2 xF2 xT2 xP2 xD2) (hc12 xTl) (hc13 xKi) (hc14 xAm) (hc15 xPl) (hc16 xCs xCo xCa) (hc17 xGo) (hc18 xOl xKn) (hc19 xKe) (hc20 xTo) (hc21 xFa) (hc22 xRe) (hc23 xVl) (hc24 xAr) c25 c26 c27 c28 c29 c30 c31 c32 c33 c34 c35 c36 c37 c38 c39 c40 c41 c42 c43 c44 c45 c46 c47 c48 c49 dyn, 0, 0)) rfl ?_
        refine pm_go (g := (42, _, [.null], _, 0, 0)) rfl ?_
        refine pm_go (g := (47, _, [], _, 0, 0)) rfl ?_
        refine pm_go (g := (48, _, [.ref 10], _, 0, 0)) rfl ?_
        refine pm_go (g := (51, _, [.ref 5], _, 0, 0)) rfl ?_
        refine pm_go (g := (52, _, [.int (nI k), .ref 5], _, 0, 0)) rfl ?_
        refine pm_callD (z := 45) (as := [.ref 5, .int (nI k)]) (rest := []) rfl ?_
        refine f_X4_at (nI k) (by omega) (by first | assumption | rfl) (by omega) (fun v17_j9 h17 => ?_)
        show pm_WP 60 (55, [(2, .int (nI k)), (1, .null), (0, .ref 10)], [.ref (v17_j9 + 50)], _, 0, 0) _
        rw [nI_c (by omega)] at h17
        obtain ⟨pw19, h20, h21, h22⟩ := id h17
        refine pm_go (g := (56, [(1, .ref (v17_j9 + 50)), (2, .int (nI k)), (0, .ref 10)], [], _, 0, 0)) rfl ?_
        refine pm_go (g := (59, [(2, .int ((nI k) + 1)), (1, .ref (v17_j9 + 50)), (0, .ref 10)], [], _, 0, 0)) rfl ?_
        refine pm_go (g := (4, _, [], _, 0, 0)) rfl ?_
        refine pm_sub (lv := [(2, .int ((nI k) + 1)), (1, .ref (v17_j9 + 50)), (0, .ref 10)]) ?_ ⟨le_c (List.Mem.head _) (le_c (List.Mem.tail _ (List.Mem.head _)) (le_c (List.Mem.tail _ (List.Mem.tail _ (List.Mem.head _))) le_n)), (show ([2, 1, 0] : List Nat).Nodup by decide)⟩
        rw [nI_1]
        refine f_X6_mostSpecial_10_2 v17_j9 k q n_q f_q h17 a_q p0 p1 p2 n (k + 1) (by omega) (by omega) (by omega) ⟨by assumption, by assumption⟩ (fun j q1 q2 => ?_) k0 k1
        rcases Nat.lt_succ_iff_lt_or_eq.mp q1 with q | q
        · exact absurd q2 (g3 j q)
        · exact q
      show pm_WP 60 (38, [(2, .int (nI k)), (1, .null), (0, .ref 10)], [.int 0], _, 0, 0) _
      refine pm_brT (g := (56, [(2, .int (nI k)), (1, .null), (0, .ref 10)], [], hq g (hc1 xTc xFc xRc xVc xLr xFl) (hc2 xTn) (hc3 xPa) (hc4 xUp) (hc5 xMn xSt xAb xVa) (hc6 xAl) (hc7 xHa) (hc8 xNm) (hc9 xBy xBs) (hc10 (.ref (q + 50)) xF1 xT1 xP1 xD1) (hc11 xA2 xF2 xT2 xP2 xD2) (hc12 xTl) (hc13 xKi) (hc14 xAm) (hc15 xPl) (hc16 xCs xCo xCa) (hc17 xGo) (hc18 xOl xKn) (hc19 xKe) (hc20 xTo) (hc21 xFa) (hc22 xRe) (hc23 xVl) (hc24 xAr) c25 c26 c27 c28 c29 c30 c31 c32 c33 c34 c35 c36 c37 c38 c39 c40 c41 c42 c43 c44 c45 c46 c47 c48 c49 dyn, 0, 0)) rfl ?_
      refine pm_go (g := (59, [(2, .int ((nI k) + 1)), (1, .null), (0, .ref 10)], [], _, 0, 0)) rfl ?_
      refine pm_go (g := (4, _, [], _, 0, 0)) rfl ?_
      refine pm_sub (lv := [(2, .int ((nI k) + 1)), (1, .null), (0, .ref 10)]) ?_ ⟨le_c (List.Mem.head _) (le_c (List.Mem.tail _ (List.Mem.head _)) (le_c (List.Mem.tail _ (List.Mem.tail _ (List.Mem.head _))) le_n)), (show ([2, 1, 0] : List Nat).Nodup by decide)⟩
      rw [nI_1]
      refine ih (k + 1) (by omega) (by omega) (fun j q1 q2 => ?_) k0 k1
      rcases Nat.lt_succ_iff_lt_or_eq.mp q1 with q | q
      · exact g3 j q q2
      · subst q; first | exact absurd q2.2 (by assumption) | (simp_all; done)
    show pm_WP 60 (23, [(2, .int (nI k)), (1, .null), (0, .ref 10)], [.int 0], hq g (hc1 xTc xFc xRc xVc xLr xFl) (hc2 xTn) (hc3 xPa) (hc4 xUp) (hc5 xMn xSt xAb xVa) (hc6 xAl) (hc7 xHa) (hc8 xNm) (hc9 xBy xBs) (hc10 (.ref (q + 50)) xF1 xT1 xP1 xD1) (hc11 xA2 xF2 xT2 xP2 xD2) (hc12 xTl) (hc13 xKi) (hc14 xAm) (hc15 xPl) (hc16 xCs xCo xCa) (hc17 xGo) (hc18 xOl xKn) (hc19 xKe) (hc20 xTo) (hc21 xFa) (hc22 xRe) (hc23 xVl) (hc24 xAr) c25 c26 c27 c28 c29 c30 c31 c32 c33 c34 c35 c36 c37 c38 c39 c40 c41 c42 c43 c44 c45 c46 c47 c48 c49 dyn, 0, 0) _
    rw [hkc] at h6
    refine pm_brT (g := (56, [(2, .int (nI k)), (1, .null), (0, .ref 10)], [], hq g (hc1 xTc xFc xRc xVc xLr xFl) (hc2 xTn) (hc3 xPa) (hc4 xUp) (hc5 xMn xSt xAb xVa) (hc6 xAl) (hc7 xHa) (hc8 xNm) (hc9 xBy xBs) (hc10 (.ref (q + 50)) xF1 xT1 xP1 xD1) (hc11 xA2 xF2 xT2 xP2 xD2) (hc12 xTl) (hc13 xKi) (hc14 xAm) (hc15 xPl) (hc16 xCs xCo xCa) (hc17 xGo) (hc18 xOl xKn) (hc19 xKe) (hc20 xTo) (hc21 xFa) (hc22 xRe) (hc23 xVl) (hc24 xAr) c25 c26 c27 c28 c29 c30 c31 c32 c33 c34 c35 c36 c37 c38 c39 c40 c41 c42 c43 c44 c45 c46 c47 c48 c49 dyn, 0, 0)) rfl ?_
    refine pm_go (g := (59, [(2, .int ((nI k) + 1)), (1, .null), (0, .ref 10)], [], _, 0, 0)) rfl ?_
    refine pm_go (g := (4, _, [], _, 0, 0)) rfl ?_
    refine pm_sub (lv := [(2, .int ((nI k) + 1)), (1, .null), (0, .ref 10)]) ?_ ⟨le_c (List.Mem.head _) (le_c (List.Mem.tail _ (List.Mem.head _)) (le_c (List.Mem.tail _ (List.Mem.tail _ (List.Mem.head _))) le_n)), (show ([2, 1, 0] : List Nat).Nodup by decide)⟩
    rw [nI_1]
    refine ih (k + 1) (by omega) (by omega) (fun j q1 q2 => ?_) k0 k1
    rcases Nat.lt_succ_iff_lt_or_eq.mp q1 with q | q
    · exact g3 j q q2
    · subst q; first | exact absurd q2.2 (by assumption) | (simp_all; done)
set_option maxRecDepth 100000 in
set_option maxHeartbeats 4000000 in
theorem f_X6_mostSpecial_10 {g c25 c26 c27 c28 c29 c30 c31 c32 c33 c34 c35 c36 c37 c38 c39 c40 c41 c42 c43 c44 c45 c46 c47 c48 c49 : pm_C} {dyn : pm_H} {dOt dNa dRe dMa dMy dPm : Nat → Int32} {xTc : Int32} {xFc : Int32} {xRc : Int32} {xVc : Int32} {xLr : Int32} {xFl : Int32} {xTn : Int32} {xMn : Int32} {xSt : Int64} {xAb : Int64} {xVa : Int64} {xBy : Value} {xBs : Int32} {xF1 : Int32} {xT1 : Int64} {xP1 : Int32} {xD1 : Value} {xA2 : Value} {xF2 : Int32} {xT2 : Int64} {xP2 : Int32} {xD2 : Value} {xTl : Int32} {xCs : Int32} {xCo : Int32} {xCa : Value} {xOl : Int32} {xKn : Int32} {xPa : Nat → Int32} {xUp : Nat → Int32} {xAl : Nat → Option Nat} {xHa : Nat → Int64} {xNm : Nat → Int64} {xKi : Nat → Int32} {xAm : Nat → Int32} {xPl : Nat → Int32} {xGo : Nat → Int32} {xKe : Nat → Int32} {xTo : Nat → Int32} {xFa : Nat → Option Nat} {xRe : Nat → Option Nat} {xVl : Nat → Option Nat} {xAr : Nat → Int32} {Q : pm_Q} (q n_q : Nat) (f_q : Nat → Int32) (a_q : isAr dyn q n_q f_q) (p0 : 0 ≤ xF1.toInt ∧ xF1.toInt ≤ 1) (p1 : 0 ≤ xMn.toInt ∧ xMn.toInt ≤ 40) (p2 : alF dOt dNa dRe dMa dMy dPm xMn xAl dyn) (k0 : (¬ ∃ b : Nat, oneP (fun b => bl xT1 b = true ∧ spX xUp dMy dPm xT1 xMn ((n_q : Int) - xF1.toInt) xP1 b 0) xMn b) → Q (some (.null)) (hq g (hc1 xTc xFc xRc xVc xLr xFl) (hc2 xTn) (hc3 xPa) (hc4 xUp) (hc5 xMn xSt xAb xVa) (hc6 xAl) (hc7 xHa) (hc8 xNm) (hc9 xBy xBs) (hc10 (.ref (q + 50)) xF1 xT1 xP1 xD1) (hc11 xA2 xF2 xT2 xP2 xD2) (hc12 xTl) (hc13 xKi) (hc14 xAm) (hc15 xPl) (hc16 xCs xCo xCa) (hc17 xGo) (hc18 xOl xKn) (hc19 xKe) (hc20 xTo) (hc21 xFa) (hc22 xRe) (hc23 xVl) (hc24 xAr) c25 c26 c27 c28 c29 c30 c31 c32 c33 c34 c35 c36 c37 c38 c39 c40 c41 c42 c43 c44 c45 c46 c47 c48 c49 dyn)) (k1 : ∀ (j9 : Nat), ∀ (b9 : Nat), (mbF dOt dNa dRe dMa dMy dPm dyn j9 b9) → (oneP (fun b => bl xT1 b = true ∧ spX xUp dMy dPm xT1 xMn ((n_q : Int) - xF1.toInt) xP1 b 0) xMn b9) → Q (some (.ref (j9 + 50))) (hq g (hc1 xTc xFc xRc xVc xLr xFl) (hc2 xTn) (hc3 xPa) (hc4 xUp) (hc5 xMn xSt xAb xVa) (hc6 xAl) (hc7 xHa) (hc8 xNm) (hc9 xBy xBs) (hc10 (.ref (q + 50)) xF1 xT1 xP1 xD1) (hc11 xA2 xF2 xT2 xP2 xD2) (hc12 xTl) (hc13 xKi) (hc14 xAm) (hc15 xPl) (hc16 xCs xCo xCa) (hc17 xGo) (hc18 xOl xKn) (hc19 xKe) (hc20 xTo) (hc21 xFa) (hc22 xRe) (hc23 xVl) (hc24 xAr) c25 c26 c27 c28 c29 c30 c31 c32 c33 c34 c35 c36 c37 c38 c39 c40 c41 c42 c43 c44 c45 c46 c47 c48 c49 dyn)) : pm_WP 60 (0, [(0, .ref 10)], [], hq g (hc1 xTc xFc xRc xVc xLr xFl) (hc2 xTn) (hc3 xPa) (hc4 xUp) (hc5 xMn xSt xAb xVa) (hc6 xAl) (hc7 xHa) (hc8 xNm) (hc9 xBy xBs) (hc10 (.ref (q + 50)) xF1 xT1 xP1 xD1) (hc11 xA2 xF2 xT2 xP2 xD2) (hc12 xTl) (hc13 xKi) (hc14 xAm) (hc15 xPl) (hc16 xCs xCo xCa) (hc17 xGo) (hc18 xOl xKn) (hc19 xKe) (hc20 xTo) (hc21 xFa) (hc22 xRe) (hc23 xVl) (hc24 xAr) c25 c26 c27 c28 c29 c30 c31 c32 c33 c34 c35 c36 c37 c38 c39 c40 c41 c42 c43 c44 c45 c46 c47 c48 c49 dyn, 0, 0) Q := by
  obtain ⟨h1, h2⟩ := id a_q
  refine pm_go (g := (1, [(0, .ref 10)], [.null], hq g (hc1 xTc xFc xRc xVc xLr xFl) (hc2 xTn) (hc3 xPa) (hc4 xUp) (hc5 xMn xSt xAb xVa) (hc6 xAl) (hc7 xHa) (hc8 xNm) (hc9 xBy xBs) (hc10 (.ref (q + 50)) xF1 xT1 xP1 xD1) (hc11 xA2 xF2 xT2 xP2 xD2) (hc12 xTl) (hc13 xKi) (hc14 xAm) (hc15 xPl) (hc16 xCs xCo xCa) (hc17 xGo) (hc18 xOl xKn) (hc19 xKe) (hc20 xTo) (hc21 xFa) (hc22 xRe) (hc23 xVl) (hc24 xAr) c25 c26 c27 c28 c29 c30 c31 c32 c33 c34 c35 c36 c37 c38 c39 c40 c41 c42 c43 c44 c45 c46 c47 c48 c49 dyn, 0, 0)) rfl ?_
  refine pm_go (g := (2, [(1, .null), (0, .ref 10)], [], _, 0, 0)) rfl ?_
  refine pm_go (g := (3, _, [.int 0], _, 0, 0)) rfl ?_
  refine pm_go (g := (4, [(2, .int 0), (1, .null), (0, .ref 10)], [], _, 0, 0)) rfl ?_
  refine pm_sub (lv := [(2, .int 0), (1, .null), (0, .ref 10)]) ?_ ⟨le_c (List.Mem.head _) (le_c (List.Mem.tail _ (List.Mem.head _)) (le_c (List.Mem.tail _ (List.Mem.tail _ (List.Mem.head _))) le_n)), (show ([2, 1, 0] : List Nat).Nodup by decide)⟩
  exact f_X6_mostSpecial_10_1 q n_q f_q a_q p0 p1 p2 41 0 (by omega) (by omega) (fun j q => absurd q (by omega)) k0 k1
set_option maxRecDepth 100000 in
set_option maxHeartbeats 4000000 in
theorem f_X6_run_10_l {g c25 c26 c27 c28 c29 c30 c31 c32 c33 c34 c35 c36 c37 c38 c39 c40 c41 c42 c43 c44 c45 c46 c47 c48 c49 : pm_C} {dyn : pm_H} {dOt dNa dRe dMa dMy dPm : Nat → Int32} {xTc : Int32} {xFc : Int32} {xRc : Int32} {xVc : Int32} {xLr : Int32} {xFl : Int32} {xTn : Int32} {xMn : Int32} {xSt : Int64} {xAb : Int64} {xVa : Int64} {xBy : Value} {xBs : Int32} {xF1 : Int32} {xT1 : Int64} {xP1 : Int32} {xD1 : Value} {xA2 : Value} {xF2 : Int32} {xT2 : Int64} {xP2 : Int32} {xD2 : Value} {xTl : Int32} {xCs : Int32} {xCo : Int32} {xCa : Value} {xOl : Int32} {xKn : Int32} {xPa : Nat → Int32} {xUp : Nat → Int32} {xAl : Nat → Option Nat} {xHa : Nat → Int64} {xNm : Nat → Int64} {xKi : Nat → Int32} {xAm : Nat → Int32} {xPl : Nat → Int32} {xGo : Nat → Int32} {xKe : Nat → Int32} {xTo : Nat → Int32} {xFa : Nat → Option Nat} {xRe : Nat → Option Nat} {xVl : Nat → Option Nat} {xAr : Nat → Int32} {Q : pm_Q} (s : Int64) (q n_q : Nat) (f_q : Nat → Int32) (a_q : isAr dyn q n_q f_q) (p0 : 0 ≤ xF1.toInt ∧ xF1.toInt ≤ 1) (p1 : 0 ≤ xMn.toInt ∧ xMn.toInt ≤ 40) (p2 : alF dOt dNa dRe dMa dMy dPm xMn xAl dyn) : ∀ (n k : Nat) (t0 : Int64) (y0 : Int32), (1 ≤ k ∧ k ≤ 4) → (4 < k + n) → (rnK (fun ph x => bl s x = true ∧ fitX xUp dMa dMy dPm n_q f_q xF1 x ph) xMn t0 y0 k) → (∀ (t9 : Int64) (p9 : Int32), rnX (fun ph x => bl s x = true ∧ fitX xUp dMa dMy dPm n_q f_q xF1 x ph) xMn t9 p9 → pm_WP 53 (108, [(0, .ref 10)], [], hq g (hc1 xTc xFc xRc xVc xLr xFl) (hc2 xTn) (hc3 xPa) (hc4 xUp) (hc5 xMn xSt xAb xVa) (hc6 xAl) (hc7 xHa) (hc8 xNm) (hc9 xBy xBs) (hc10 (.ref (q + 50)) xF1 t9 p9 xD1) (hc11 xA2 xF2 xT2 xP2 xD2) (hc12 xTl) (hc13 xKi) (hc14 xAm) (hc15 xPl) (hc16 xCs xCo xCa) (hc17 xGo) (hc18 xOl xKn) (hc19 xKe) (hc20 xTo) (hc21 xFa) (hc22 xRe) (hc23 xVl) (hc24 xAr) c25 c26 c27 c28 c29 c30 c31 c32 c33 c34 c35 c36 c37 c38 c39 c40 c41 c42 c43 c44 c45 c46 c47 c48 c49 dyn, 0, 0) Q) → pm_WP 53 (79, [(7, .int (nI k)), (0, .ref 10), (5, .long s)], [], hq g (hc1 xTc xFc xRc xVc xLr xFl) (hc2 xTn) (hc3 xPa) (hc4 xUp) (hc5 xMn xSt xAb xVa) (hc6 xAl) (hc7 xHa) (hc8 xNm) (hc9 xBy xBs) (hc10 (.ref (q + 50)) xF1 t0 y0 xD1) (hc11 xA2 xF2 xT2 xP2 xD2) (hc12 xTl) (hc13 xKi) (hc14 xAm) (hc15 xPl) (hc16 xCs xCo xCa) (hc17 xGo) (hc18 xOl xKn) (hc19 xKe) (hc20 xTo) (hc21 xFa) (hc22 xRe) (hc23 xVl) (hc24 xAr) c25 c26 c27 c28 c29 c30 c31 c32 c33 c34 c35 c36 c37 c38 c39 c40 c41 c42 c43 c44 c45 c46 c47 c48 c49 dyn, 0, 0) Q := by
  intro n
  induction n with
  | zero =>
    intro k t0 y0 g1 g2 g3 k0
    exfalso; omega
  | succ n ih =>
    intro k t0 y0 g1 g2 g3 k0
    have hk := nI_toInt (n := k) (by omega)
    have hkc : (nI k).toNatClampNeg = k := nI_clamp (by omega)
    obtain ⟨h1, h2⟩ := id a_q
    refine pm_go (g := (81, [(7, .int (nI k)), (0, .ref 10), (5, .long s)], [.int (nI k)], hq g (hc1 xTc xFc xRc xVc xLr xFl) (hc2 xTn) (hc3 xPa) (hc4 xUp) (hc5 xMn xSt xAb xVa) (hc6 xAl) (hc7 xHa) (hc8 xNm) (hc9 xBy xBs) (hc10 (.ref (q + 50)) xF1 t0 y0 xD1) (hc11 xA2 xF2 xT2 xP2 xD2) (hc12 xTl) (hc13 xKi) (hc14 xAm) (hc15 xPl) (hc16 xCs xCo xCa) (hc17 xGo) (hc18 xOl xKn) (hc19 xKe) (hc20 xTo) (hc21 xFa) (hc22 xRe) (hc23 xVl) (hc24 xAr) c25 c26 c27 c28 c29 c30 c31 c32 c33 c34 c35 c36 c37 c38 c39 c40 c41 c42 c43 c44 c45 c46 c47 c48 c49 dyn, 0, 0)) rfl ?_
    refine pm_go (g := (82, _, [.int 3, .int (nI k)], _, 0, 0)) rfl ?_
    refine pm_if2 (g := (108, [(7, .int (nI k)), (0, .ref 10), (5, .long s)], [], hq g (hc1 xTc xFc xRc xVc xLr xFl) (hc2 xTn) (hc3 xPa) (hc4 xUp) (hc5 xMn xSt xAb xVa) (hc6 xAl) (hc7 xHa) (hc8 xNm) (hc9 xBy xBs) (hc10 (.ref (q + 50)) xF1 t0 y0 xD1) (hc11 xA2 xF2 xT2 xP2 xD2) (hc12 xTl) (hc13 xKi) (hc14 xAm) (hc15 xPl) (hc16 xCs xCo xCa) (hc17 xGo) (hc18 xOl xKn) (hc19 xKe) (hc20 xTo) (hc21 xFa) (hc22 xRe) (hc23 xVl) (hc24 xAr) c25 c26 c27 c28 c29 c30 c31 c32 c33 c34 c35 c36 c37 c38 c39 c40 c41 c42 c43 c44 c45 c46 c47 c48 c49 dyn, 0, 0)) (h := (85, [(7, .int (nI k)), (0, .ref 10), (5, .long s)], [], hq g (hc1 xTc xFc xRc xVc xLr xFl) (hc2 xTn) (hc3 xPa) (hc4 xUp) (hc5 xMn xSt xAb xVa) (hc6 xAl) (hc7 xHa) (hc8 xNm) (hc9 xBy xBs) (hc10 (.ref (q + 50)) xF1 t0 y0 xD1) (hc11 xA2 xF2 xT2 xP2 xD2) (hc12 xTl) (hc13 xKi) (hc14 xAm) (hc15 xPl) (hc16 xCs xCo xCa) (hc17 xGo) (hc18 xOl xKn) (hc19 xKe) (hc20 xTo) (hc21 xFa) (hc22 xRe) (hc23 xVl) (hc24 xAr) c25 c26 c27 c28 c29 c30 c31 c32 c33 c34 c35 c36 c37 c38 c39 c40 c41 c42 c43 c44 c45 c46 c47 c48 c49 dyn, 0, 0)) rfl (fun h3 => ?_) (fun h3 => ?_)
    ·
      have h3 := qT_gt (cx := (nI k).toInt) (cy := 3) rfl (by decide) h3
      refine pm_sub (lv := [(0, .ref 10)]) ?_ ⟨le_c (List.Mem.tail _ (List.Mem.head _)) le_n, (show ([7, 0, 5] : List Nat).Nodup by decide)⟩
      exact k0 _ _ (rn_e (by first | exact Or.inr (by omega) | exact Or.inl (fun q => absurd (lc0.mpr q) (by omega))) g3)
    have h3 := qF_gt (cx := (nI k).toInt) (cy := 3) rfl (by decide) h3
    refine pm_go (g := (86, _, [.ref 10], _, 0, 0)) rfl ?_
    refine pm_go (g := (89, _, [.long t0], _, 0, 0)) rfl ?_
    refine pm_go (g := (90, _, [.long 0, .long t0], _, 0, 0)) rfl ?_
    refine pm_go (g := (91, _, [.int (lg_cmp t0 0)], _, 0, 0)) rfl ?_
    refine pm_if2 (g := (108, [(7, .int (nI k)), (0, .ref 10), (5, .long s)], [], hq g (hc1 xTc xFc xRc xVc xLr xFl) (hc2 xTn) (hc3 xPa) (hc4 xUp) (hc5 xMn xSt xAb xVa) (hc6 xAl) (hc7 xHa) (hc8 xNm) (hc9 xBy xBs) (hc10 (.ref (q + 50)) xF1 t0 y0 xD1) (hc11 xA2 xF2 xT2 xP2 xD2) (hc12 xTl) (hc13 xKi) (hc14 xAm) (hc15 xPl) (hc16 xCs xCo xCa) (hc17 xGo) (hc18 xOl xKn) (hc19 xKe) (hc20 xTo) (hc21 xFa) (hc22 xRe) (hc23 xVl) (hc24 xAr) c25 c26 c27 c28 c29 c30 c31 c32 c33 c34 c35 c36 c37 c38 c39 c40 c41 c42 c43 c44 c45 c46 c47 c48 c49 dyn, 0, 0)) (h := (94, [(7, .int (nI k)), (0, .ref 10), (5, .long s)], [], hq g (hc1 xTc xFc xRc xVc xLr xFl) (hc2 xTn) (hc3 xPa) (hc4 xUp) (hc5 xMn xSt xAb xVa) (hc6 xAl) (hc7 xHa) (hc8 xNm) (hc9 xBy xBs) (hc10 (.ref (q + 50)) xF1 t0 y0 xD1) (hc11 xA2 xF2 xT2 xP2 xD2) (hc12 xTl) (hc13 xKi) (hc14 xAm) (hc15 xPl) (hc16 xCs xCo xCa) (hc17 xGo) (hc18 xOl xKn) (hc19 xKe) (hc20 xTo) (hc21 xFa) (hc22 xRe) (hc23 xVl) (hc24 xAr) c25 c26 c27 c28 c29 c30 c31 c32 c33 c34 c35 c36 c37 c38 c39 c40 c41 c42 c43 c44 c45 c46 c47 c48 c49 dyn, 0, 0)) rfl (fun h4 => ?_) (fun h4 => ?_)
    ·
      have h4 := qT_ne (cx := (lg_cmp t0 0).toInt) (cy := 0) rfl (by decide) h4
      refine pm_sub (lv := [(0, .ref 10)]) ?_ ⟨le_c (List.Mem.tail _ (List.Mem.head _)) le_n, (show ([7, 0, 5] : List Nat).Nodup by decide)⟩
      exact k0 _ _ (rn_e (by first | exact Or.inr (by omega) | exact Or.inl (fun q => absurd (lc0.mpr q) (by omega))) g3)
    have h4 := qF_ne (cx := (lg_cmp t0 0).toInt) (cy := 0) rfl (by decide) h4
    refine pm_go (g := (95, _, [.ref 10], _, 0, 0)) rfl ?_
    refine pm_go (g := (97, _, [.long s, .ref 10], _, 0, 0)) rfl ?_
    refine pm_go (g := (99, _, [.int (nI k), .long s, .ref 10], _, 0, 0)) rfl ?_
    refine pm_callD (z := 58) (as := [.ref 10, .long s, .int (nI k)]) (rest := []) rfl ?_
    refine f_X6_gatherFit_10 s (nI k) q n_q f_q ⟨h1, by omega⟩ (by omega) (by omega) (by first | assumption | rfl) (fun v5_t9 v5_p9 h5 => ?_)
    show pm_WP 53 (102, [(7, .int (nI k)), (0, .ref 10), (5, .long s)], [], _, 0, 0) _
    refine pm_go (g := (105, [(7, .int ((nI k) + 1)), (0, .ref 10), (5, .long s)], [], _, 0, 0)) rfl ?_
    refine pm_go (g := (79, _, [], _, 0, 0)) rfl ?_
    refine pm_sub (lv := [(7, .int ((nI k) + 1)), (0, .ref 10), (5, .long s)]) ?_ ⟨le_c (List.Mem.head _) (le_c (List.Mem.tail _ (List.Mem.head _)) (le_c (List.Mem.tail _ (List.Mem.tail _ (List.Mem.head _))) le_n)), (show ([7, 0, 5] : List Nat).Nodup by decide)⟩
    rw [nI_1]
    exact ih (k + 1) _ _ (by omega) (by omega) (rn_s (by omega) (by omega) (lc0.mp (by omega)) g3 h5) k0
set_option maxRecDepth 100000 in
set_option maxHeartbeats 4000000 in
theorem f_X6_run_10 {g c25 c26 c27 c28 c29 c30 c31 c32 c33 c34 c35 c36 c37 c38 c39 c40 c41 c42 c43 c44 c45 c46 c47 c48 c49 : pm_C} {dyn : pm_H} {dOt dNa dRe dMa dMy dPm : Nat → Int32} {xTc : Int32} {xFc : Int32} {xRc : Int32} {xVc : Int32} {xLr : Int32} {xFl : Int32} {xTn : Int32} {xMn : Int32} {xSt : Int64} {xAb : Int64} {xVa : Int64} {xBy : Value} {xBs : Int32} {xA1 : Value} {xF1 : Int32} {xT1 : Int64} {xP1 : Int32} {xD1 : Value} {xA2 : Value} {xF2 : Int32} {xT2 : Int64} {xP2 : Int32} {xD2 : Value} {xTl : Int32} {xCs : Int32} {xCo : Int32} {xCa : Value} {xOl : Int32} {xKn : Int32} {xPa : Nat → Int32} {xUp : Nat → Int32} {xAl : Nat → Option Nat} {xHa : Nat → Int64} {xNm : Nat → Int64} {xKi : Nat → Int32} {xAm : Nat → Int32} {xPl : Nat → Int32} {xGo : Nat → Int32} {xKe : Nat → Int32} {xTo : Nat → Int32} {xFa : Nat → Option Nat} {xRe : Nat → Option Nat} {xVl : Nat → Option Nat} {xAr : Nat → Int32} {Q : pm_Q} (t : Int32) (w : Int32) (q n_q : Nat) (f_q : Nat → Int32) (b : Int32) (a_q : isAr dyn q n_q f_q) (p0 : 0 ≤ xMn.toInt ∧ xMn.toInt ≤ 40) (p1 : alF dOt dNa dRe dMa dMy dPm xMn xAl dyn) (k0 : ∀ (f9 : Int32), ∀ (t9 : Int64), ∀ (p9 : Int32), ∀ (d9 : Value), ∀ (o9 : Option Nat), (fdF dOt dNa dRe dMa dMy dPm dyn d9 o9) → (rsX xUp dMa dMy dPm (nmX xHa xNm t w) t n_q f_q xMn b f9 t9 p9 o9) → Q none (hq g (hc1 xTc xFc xRc xVc xLr xFl) (hc2 xTn) (hc3 xPa) (hc4 xUp) (hc5 xMn xSt xAb xVa) (hc6 xAl) (hc7 xHa) (hc8 xNm) (hc9 xBy xBs) (hc10 (.ref (q + 50)) f9 t9 p9 d9) (hc11 xA2 xF2 xT2 xP2 xD2) (hc12 xTl) (hc13 xKi) (hc14 xAm) (hc15 xPl) (hc16 xCs xCo xCa) (hc17 xGo) (hc18 xOl xKn) (hc19 xKe) (hc20 xTo) (hc21 xFa) (hc22 xRe) (hc23 xVl) (hc24 xAr) c25 c26 c27 c28 c29 c30 c31 c32 c33 c34 c35 c36 c37 c38 c39 c40 c41 c42 c43 c44 c45 c46 c47 c48 c49 dyn)) : pm_WP 53 (0, [(0, .ref 10), (1, .int t), (2, .int w), (3, .ref (q + 50)), (4, .int b)], [], hq g (hc1 xTc xFc xRc xVc xLr xFl) (hc2 xTn) (hc3 xPa) (hc4 xUp) (hc5 xMn xSt xAb xVa) (hc6 xAl) (hc7 xHa) (hc8 xNm) (hc9 xBy xBs) (hc10 xA1 xF1 xT1 xP1 xD1) (hc11 xA2 xF2 xT2 xP2 xD2) (hc12 xTl) (hc13 xKi) (hc14 xAm) (hc15 xPl) (hc16 xCs xCo xCa) (hc17 xGo) (hc18 xOl xKn) (hc19 xKe) (hc20 xTo) (hc21 xFa) (hc22 xRe) (hc23 xVl) (hc24 xAr) c25 c26 c27 c28 c29 c30 c31 c32 c33 c34 c35 c36 c37 c38 c39 c40 c41 c42 c43 c44 c45 c46 c47 c48 c49 dyn, 0, 0) Q := by
  obtain ⟨h1, h2⟩ := id a_q
  refine pm_go (g := (1, [(0, .ref 10), (1, .int t), (2, .int w), (3, .ref (q + 50)), (4, .int b)], [.ref 10], hq g (hc1 xTc xFc xRc xVc xLr xFl) (hc2 xTn) (hc3 xPa) (hc4 xUp) (hc5 xMn xSt xAb xVa) (hc6 xAl) (hc7 xHa) (hc8 xNm) (hc9 xBy xBs) (hc10 xA1 xF1 xT1 xP1 xD1) (hc11 xA2 xF2 xT2 xP2 xD2) (hc12 xTl) (hc13 xKi) (hc14 xAm) (hc15 xPl) (hc16 xCs xCo xCa) (hc17 xGo) (hc18 xOl xKn) (hc19 xKe) (hc20 xTo) (hc21 xFa) (hc22 xRe) (hc23 xVl) (hc24 xAr) c25 c26 c27 c28 c29 c30 c31 c32 c33 c34 c35 c36 c37 c38 c39 c40 c41 c42 c43 c44 c45 c46 c47 c48 c49 dyn, 0, 0)) rfl ?_
  refine pm_go (g := (2, _, [.ref (q + 50), .ref 10], _, 0, 0)) rfl ?_
  refine pm_go (g := (5, _, [], hq g (hc1 xTc xFc xRc xVc xLr xFl) (hc2 xTn) (hc3 xPa) (hc4 xUp) (hc5 xMn xSt xAb xVa) (hc6 xAl) (hc7 xHa) (hc8 xNm) (hc9 xBy xBs) (hc10 (.ref (q + 50)) xF1 xT1 xP1 xD1) (hc11 xA2 xF2 xT2 xP2 xD2) (hc12 xTl) (hc13 xKi) (hc14 xAm) (hc15 xPl) (hc16 xCs xCo xCa) (hc17 xGo) (hc18 xOl xKn) (hc19 xKe) (hc20 xTo) (hc21 xFa) (hc22 xRe) (hc23 xVl) (hc24 xAr) c25 c26 c27 c28 c29 c30 c31 c32 c33 c34 c35 c36 c37 c38 c39 c40 c41 c42 c43 c44 c45 c46 c47 c48 c49 dyn, 0, 0)) rfl ?_
  refine pm_go (g := (6, _, [.ref 10], _, 0, 0)) rfl ?_
  refine pm_go (g := (8, _, [.int b, .ref 10], _, 0, 0)) rfl ?_
  refine pm_if2 (g := (15, [(0, .ref 10), (1, .int t), (2, .int w), (3, .ref (q + 50)), (4, .int b)], [.ref 10], hq g (hc1 xTc xFc xRc xVc xLr xFl) (hc2 xTn) (hc3 xPa) (hc4 xUp) (hc5 xMn xSt xAb xVa) (hc6 xAl) (hc7 xHa) (hc8 xNm) (hc9 xBy xBs) (hc10 (.ref (q + 50)) xF1 xT1 xP1 xD1) (hc11 xA2 xF2 xT2 xP2 xD2) (hc12 xTl) (hc13 xKi) (hc14 xAm) (hc15 xPl) (hc16 xCs xCo xCa) (hc17 xGo) (hc18 xOl xKn) (hc19 xKe) (hc20 xTo) (hc21 xFa) (hc22 xRe) (hc23 xVl) (hc24 xAr) c25 c26 c27 c28 c29 c30 c31 c32 c33 c34 c35 c36 c37 c38 c39 c40 c41 c42 c43 c44 c45 c46 c47 c48 c49 dyn, 0, 0)) (h := (11, [(0, .ref 10), (1, .int t), (2, .int w), (3, .ref (q + 50)), (4, .int b)], [.ref 10], hq g (hc1 xTc xFc xRc xVc xLr xFl) (hc2 xTn) (hc3 xPa) (hc4 xUp) (hc5 xMn xSt xAb xVa) (hc6 xAl) (hc7 xHa) (hc8 xNm) (hc9 xBy xBs) (hc10 (.ref (q + 50)) xF1 xT1 xP1 xD1) (hc11 xA2 xF2 xT2 xP2 xD2) (hc12 xTl) (hc13 xKi) (hc14 xAm) (hc15 xPl) (hc16 xCs xCo xCa) (hc17 xGo) (hc18 xOl xKn) (hc19 xKe) (hc20 xTo) (hc21 xFa) (hc22 xRe) (hc23 xVl) (hc24 xAr) c25 c26 c27 c28 c29 c30 c31 c32 c33 c34 c35 c36 c37 c38 c39 c40 c41 c42 c43 c44 c45 c46 c47 c48 c49 dyn, 0, 0)) rfl (fun h3 => ?_) (fun h3 => ?_)
  ·
    have h3 := qT_eq (cx := (b).toInt) (cy := 0) rfl (by decide) h3
    refine pm_go (g := (16, _, [.int 0, .ref 10], _, 0, 0)) rfl ?_
    refine pm_go (g := (19, _, [], hq g (hc1 xTc xFc xRc xVc xLr xFl) (hc2 xTn) (hc3 xPa) (hc4 xUp) (hc5 xMn xSt xAb xVa) (hc6 xAl) (hc7 xHa) (hc8 xNm) (hc9 xBy xBs) (hc10 (.ref (q + 50)) 0 xT1 xP1 xD1) (hc11 xA2 xF2 xT2 xP2 xD2) (hc12 xTl) (hc13 xKi) (hc14 xAm) (hc15 xPl) (hc16 xCs xCo xCa) (hc17 xGo) (hc18 xOl xKn) (hc19 xKe) (hc20 xTo) (hc21 xFa) (hc22 xRe) (hc23 xVl) (hc24 xAr) c25 c26 c27 c28 c29 c30 c31 c32 c33 c34 c35 c36 c37 c38 c39 c40 c41 c42 c43 c44 c45 c46 c47 c48 c49 dyn, 0, 0)) rfl ?_
    refine pm_go (g := (20, _, [.ref 10], _, 0, 0)) rfl ?_
    refine pm_go (g := (21, _, [.long 0, .ref 10], _, 0, 0)) rfl ?_
    refine pm_go (g := (24, _, [], hq g (hc1 xTc xFc xRc xVc xLr xFl) (hc2 xTn) (hc3 xPa) (hc4 xUp) (hc5 xMn xSt xAb xVa) (hc6 xAl) (hc7 xHa) (hc8 xNm) (hc9 xBy xBs) (hc10 (.ref (q + 50)) 0 0 xP1 xD1) (hc11 xA2 xF2 xT2 xP2 xD2) (hc12 xTl) (hc13 xKi) (hc14 xAm) (hc15 xPl) (hc16 xCs xCo xCa) (hc17 xGo) (hc18 xOl xKn) (hc19 xKe) (hc20 xTo) (hc21 xFa) (hc22 xRe) (hc23 xVl) (hc24 xAr) c25 c26 c27 c28 c29 c30 c31 c32 c33 c34 c35 c36 c37 c38 c39 c40 c41 c42 c43 c44 c45 c46 c47 c48 c49 dyn, 0, 0)) rfl ?_
    refine pm_go (g := (25, _, [.ref 10], _, 0, 0)) rfl ?_
    refine pm_go (g := (26, _, [.int 0, .ref 10], _, 0, 0)) rfl ?_
    refine pm_go (g := (29, _, [], hq g (hc1 xTc xFc xRc xVc xLr xFl) (hc2 xTn) (hc3 xPa) (hc4 xUp) (hc5 xMn xSt xAb xVa) (hc6 xAl) (hc7 xHa) (hc8 xNm) (hc9 xBy xBs) (hc10 (.ref (q + 50)) 0 0 0 xD1) (hc11 xA2 xF2 xT2 xP2 xD2) (hc12 xTl) (hc13 xKi) (hc14 xAm) (hc15 xPl) (hc16 xCs xCo xCa) (hc17 xGo) (hc18 xOl xKn) (hc19 xKe) (hc20 xTo) (hc21 xFa) (hc22 xRe) (hc23 xVl) (hc24 xAr) c25 c26 c27 c28 c29 c30 c31 c32 c33 c34 c35 c36 c37 c38 c39 c40 c41 c42 c43 c44 c45 c46 c47 c48 c49 dyn, 0, 0)) rfl ?_
    refine pm_go (g := (30, _, [.ref 10], _, 0, 0)) rfl ?_
    refine pm_go (g := (31, _, [.null, .ref 10], _, 0, 0)) rfl ?_
    refine pm_go (g := (34, _, [], hq g (hc1 xTc xFc xRc xVc xLr xFl) (hc2 xTn) (hc3 xPa) (hc4 xUp) (hc5 xMn xSt xAb xVa) (hc6 xAl) (hc7 xHa) (hc8 xNm) (hc9 xBy xBs) (hc10 (.ref (q + 50)) 0 0 0 .null) (hc11 xA2 xF2 xT2 xP2 xD2) (hc12 xTl) (hc13 xKi) (hc14 xAm) (hc15 xPl) (hc16 xCs xCo xCa) (hc17 xGo) (hc18 xOl xKn) (hc19 xKe) (hc20 xTo) (hc21 xFa) (hc22 xRe) (hc23 xVl) (hc24 xAr) c25 c26 c27 c28 c29 c30 c31 c32 c33 c34 c35 c36 c37 c38 c39 c40 c41 c42 c43 c44 c45 c46 c47 c48 c49 dyn, 0, 0)) rfl ?_
    refine pm_go (g := (36, _, [.int b], _, 0, 0)) rfl ?_
    refine pm_if2 (g := (65, [(0, .ref 10), (1, .int t), (2, .int w), (3, .ref (q + 50)), (4, .int b)], [], hq g (hc1 xTc xFc xRc xVc xLr xFl) (hc2 xTn) (hc3 xPa) (hc4 xUp) (hc5 xMn xSt xAb xVa) (hc6 xAl) (hc7 xHa) (hc8 xNm) (hc9 xBy xBs) (hc10 (.ref (q + 50)) 0 0 0 .null) (hc11 xA2 xF2 xT2 xP2 xD2) (hc12 xTl) (hc13 xKi) (hc14 xAm) (hc15 xPl) (hc16 xCs xCo xCa) (hc17 xGo) (hc18 xOl xKn) (hc19 xKe) (hc20 xTo) (hc21 xFa) (hc22 xRe) (hc23 xVl) (hc24 xAr) c25 c26 c27 c28 c29 c30 c31 c32 c33 c34 c35 c36 c37 c38 c39 c40 c41 c42 c43 c44 c45 c46 c47 c48 c49 dyn, 0, 0)) (h := (39, [(0, .ref 10), (1, .int t), (2, .int w), (3, .ref (q + 50)), (4, .int b)], [], hq g (hc1 xTc xFc xRc xVc xLr xFl) (hc2 xTn) (hc3 xPa) (hc4 xUp) (hc5 xMn xSt xAb xVa) (hc6 xAl) (hc7 xHa) (hc8 xNm) (hc9 xBy xBs) (hc10 (.ref (q + 50)) 0 0 0 .null) (hc11 xA2 xF2 xT2 xP2 xD2) (hc12 xTl) (hc13 xKi) (hc14 xAm) (hc15 xPl) (hc16 xCs xCo xCa) (hc17 xGo) (hc18 xOl xKn) (hc19 xKe) (hc20 xTo) (hc21 xFa) (hc22 xRe) (hc23 xVl) (hc24 xAr) c25 c26 c27 c28 c29 c30 c31 c32 c33 c34 c35 c36 c37 c38 c39 c40 c41 c42 c43 c44 c45 c46 c47 c48 c49 dyn, 0, 0)) rfl (fun h4 => ?_) (fun h4 => ?_)
    ·
      have h4 := qT_eq (cx := (b).toInt) (cy := 0) rfl (by decide) h4
      refine pm_go (g := (66, _, [.ref 10], _, 0, 0)) rfl ?_
      refine pm_go (g := (69, _, [.ref 5], _, 0, 0)) rfl ?_
      refine pm_go (g := (70, _, [.int t, .ref 5], _, 0, 0)) rfl ?_
      refine pm_go (g := (71, _, [.int w, .int t, .ref 5], _, 0, 0)) rfl ?_
      refine pm_callD (z := 42) (as := [.ref 5, .int t, .int w]) (rest := []) rfl ?_
      have h5 : (0 : Int32).toInt = 0 := by decide
      refine f_X4_namedIn t w ?_
      show pm_WP 53 (74, [(0, .ref 10), (1, .int t), (2, .int w), (3, .ref (q + 50)), (4, .int b)], [.long (nmX xHa xNm t w)], _, 0, 0) _
      refine pm_go (g := (76, [(5, .long (nmX xHa xNm t w)), (0, .ref 10), (1, .int t), (2, .int w), (3, .ref (q + 50)), (4, .int b)], [], _, 0, 0)) rfl ?_
      refine pm_go (g := (77, _, [.int 1], _, 0, 0)) rfl ?_
      refine pm_go (g := (79, [(7, .int 1), (5, .long (nmX xHa xNm t w)), (0, .ref 10), (1, .int t), (2, .int w), (3, .ref (q + 50)), (4, .int b)], [], _, 0, 0)) rfl ?_
      refine pm_sub (lv := [(7, .int 1), (0, .ref 10), (5, .long (nmX xHa xNm t w))]) ?_ ⟨le_c (List.Mem.head _) (le_c (List.Mem.tail _ (List.Mem.tail _ (List.Mem.head _))) (le_c (List.Mem.tail _ (List.Mem.head _)) le_n)), (show ([7, 5, 0, 1, 2, 3, 4] : List Nat).Nodup by decide)⟩
      have h10 : (0 : Int32).toInt = 0 := by decide
      refine f_X6_run_10_l (xF1 := 0) (xT1 := xT1) (xP1 := xP1) (nmX xHa xNm t w) q n_q f_q a_q (by decide) p0 p1 5 1 _ _ (by omega) (by omega) (Or.inl ⟨rfl, rfl, fun p q1 q2 => by omega⟩) (fun t7 y8 r9 => ?_)
      show pm_WP 53 (108, [(0, .ref 10)], [], _, 0, 0) _
      refine pm_go (g := (109, _, [.ref 10], _, 0, 0)) rfl ?_
      refine pm_go (g := (110, _, [.ref 10, .ref 10], _, 0, 0)) rfl ?_
      refine pm_callD (z := 60) (as := [.ref 10]) (rest := [.ref 10]) rfl ?_
      have h11 : (0 : Int32).toInt = 0 := by decide
      refine f_X6_mostSpecial_10 q n_q f_q ⟨h1, by omega⟩ (by omega) (by omega) (by first | assumption | rfl) (fun h12 => ?_) (fun v14_j9 v14_b9 h13 h14 => ?_)
      ·
        show pm_WP 53 (113, [(0, .ref 10)], [.null, .ref 10], _, 0, 0) _
        refine pm_go (g := (116, _, [], _, 0, 0)) rfl ?_
        have hz0 : (0 : Int32).toNatClampNeg = 0 := by decide
        exact pm_ret rfl (k0 _ _ _ .null none (Or.inl ⟨rfl, rfl⟩) (Or.inr ⟨(by rintro ⟨q1, q2 | q2⟩ <;> first | omega | contradiction), Or.inr ⟨by omega, rfl⟩, r9, Or.inr ⟨rfl, h12⟩⟩))
      show pm_WP 53 (113, [(0, .ref 10)], [.ref (v14_j9 + 50), .ref 10], hq g (hc1 xTc xFc xRc xVc xLr xFl) (hc2 xTn) (hc3 xPa) (hc4 xUp) (hc5 xMn xSt xAb xVa) (hc6 xAl) (hc7 xHa) (hc8 xNm) (hc9 xBy xBs) (hc10 (.ref (q + 50)) 0 t7 y8 .null) (hc11 xA2 xF2 xT2 xP2 xD2) (hc12 xTl) (hc13 xKi) (hc14 xAm) (hc15 xPl) (hc16 xCs xCo xCa) (hc17 xGo) (hc18 xOl xKn) (hc19 xKe) (hc20 xTo) (hc21 xFa) (hc22 xRe) (hc23 xVl) (hc24 xAr) c25 c26 c27 c28 c29 c30 c31 c32 c33 c34 c35 c36 c37 c38 c39 c40 c41 c42 c43 c44 c45 c46 c47 c48 c49 dyn, 0, 0) _
      obtain ⟨pw16, h17, h18, h19⟩ := id h13
      refine pm_go (g := (116, _, [], hq g (hc1 xTc xFc xRc xVc xLr xFl) (hc2 xTn) (hc3 xPa) (hc4 xUp) (hc5 xMn xSt xAb xVa) (hc6 xAl) (hc7 xHa) (hc8 xNm) (hc9 xBy xBs) (hc10 (.ref (q + 50)) 0 t7 y8 (.ref (v14_j9 + 50))) (hc11 xA2 xF2 xT2 xP2 xD2) (hc12 xTl) (hc13 xKi) (hc14 xAm) (hc15 xPl) (hc16 xCs xCo xCa) (hc17 xGo) (hc18 xOl xKn) (hc19 xKe) (hc20 xTo) (hc21 xFa) (hc22 xRe) (hc23 xVl) (hc24 xAr) c25 c26 c27 c28 c29 c30 c31 c32 c33 c34 c35 c36 c37 c38 c39 c40 c41 c42 c43 c44 c45 c46 c47 c48 c49 dyn, 0, 0)) rfl ?_
      have hz0 : (0 : Int32).toNatClampNeg = 0 := by decide
      exact pm_ret rfl (k0 _ _ _ _ _ (Or.inr ⟨_, _, rfl, rfl, h13⟩) (Or.inr ⟨(by rintro ⟨q1, q2 | q2⟩ <;> first | omega | contradiction), Or.inr ⟨by omega, rfl⟩, r9, Or.inl ⟨_, rfl, h14⟩⟩))
    have h4 := qF_eq (cx := (b).toInt) (cy := 0) rfl (by decide) h4
    exfalso; omega
  have h3 := qF_eq (cx := (b).toInt) (cy := 0) rfl (by decide) h3
  refine pm_go (g := (12, [(0, .ref 10), (1, .int t), (2, .int w), (3, .ref (q + 50)), (4, .int b)], [.int 1, .ref 10], hq g (hc1 xTc xFc xRc xVc xLr xFl) (hc2 xTn) (hc3 xPa) (hc4 xUp) (hc5 xMn xSt xAb xVa) (hc6 xAl) (hc7 xHa) (hc8 xNm) (hc9 xBy xBs) (hc10 (.ref (q + 50)) xF1 xT1 xP1 xD1) (hc11 xA2 xF2 xT2 xP2 xD2) (hc12 xTl) (hc13 xKi) (hc14 xAm) (hc15 xPl) (hc16 xCs xCo xCa) (hc17 xGo) (hc18 xOl xKn) (hc19 xKe) (hc20 xTo) (hc21 xFa) (hc22 xRe) (hc23 xVl) (hc24 xAr) c25 c26 c27 c28 c29 c30 c31 c32 c33 c34 c35 c36 c37 c38 c39 c40 c41 c42 c43 c44 c45 c46 c47 c48 c49 dyn, 0, 0)) rfl ?_
  refine pm_go (g := (16, _, [.int 1, .ref 10], _, 0, 0)) rfl ?_
  refine pm_go (g := (19, _, [], hq g (hc1 xTc xFc xRc xVc xLr xFl) (hc2 xTn) (hc3 xPa) (hc4 xUp) (hc5 xMn xSt xAb xVa) (hc6 xAl) (hc7 xHa) (hc8 xNm) (hc9 xBy xBs) (hc10 (.ref (q + 50)) 1 xT1 xP1 xD1) (hc11 xA2 xF2 xT2 xP2 xD2) (hc12 xTl) (hc13 xKi) (hc14 xAm) (hc15 xPl) (hc16 xCs xCo xCa) (hc17 xGo) (hc18 xOl xKn) (hc19 xKe) (hc20 xTo) (hc21 xFa) (hc22 xRe) (hc23 xVl) (hc24 xAr) c25 c26 c27 c28 c29 c30 c31 c32 c33 c34 c35 c36 c37 c38 c39 c40 c41 c42 c43 c44 c45 c46 c47 c48 c49 dyn, 0, 0)) rfl ?_
  refine pm_go (g := (20, _, [.ref 10], _, 0, 0)) rfl ?_
  refine pm_go (g := (21, _, [.long 0, .ref 10], _, 0, 0)) rfl ?_
  refine pm_go (g := (24, _, [], hq g (hc1 xTc xFc xRc xVc xLr xFl) (hc2 xTn) (hc3 xPa) (hc4 xUp) (hc5 xMn xSt xAb xVa) (hc6 xAl) (hc7 xHa) (hc8 xNm) (hc9 xBy xBs) (hc10 (.ref (q + 50)) 1 0 xP1 xD1) (hc11 xA2 xF2 xT2 xP2 xD2) (hc12 xTl) (hc13 xKi) (hc14 xAm) (hc15 xPl) (hc16 xCs xCo xCa) (hc17 xGo) (hc18 xOl xKn) (hc19 xKe) (hc20 xTo) (hc21 xFa) (hc22 xRe) (hc23 xVl) (hc24 xAr) c25 c26 c27 c28 c29 c30 c31 c32 c33 c34 c35 c36 c37 c38 c39 c40 c41 c42 c43 c44 c45 c46 c47 c48 c49 dyn, 0, 0)) rfl ?_
  refine pm_go (g := (25, _, [.ref 10], _, 0, 0)) rfl ?_
  refine pm_go (g := (26, _, [.int 0, .ref 10], _, 0, 0)) rfl ?_
  refine pm_go (g := (29, _, [], hq g (hc1 xTc xFc xRc xVc xLr xFl) (hc2 xTn) (hc3 xPa) (hc4 xUp) (hc5 xMn xSt xAb xVa) (hc6 xAl) (hc7 xHa) (hc8 xNm) (hc9 xBy xBs) (hc10 (.ref (q + 50)) 1 0 0 xD1) (hc11 xA2 xF2 xT2 xP2 xD2) (hc12 xTl) (hc13 xKi) (hc14 xAm) (hc15 xPl) (hc16 xCs xCo xCa) (hc17 xGo) (hc18 xOl xKn) (hc19 xKe) (hc20 xTo) (hc21 xFa) (hc22 xRe) (hc23 xVl) (hc24 xAr) c25 c26 c27 c28 c29 c30 c31 c32 c33 c34 c35 c36 c37 c38 c39 c40 c41 c42 c43 c44 c45 c46 c47 c48 c49 dyn, 0, 0)) rfl ?_
  refine pm_go (g := (30, _, [.ref 10], _, 0, 0)) rfl ?_
  refine pm_go (g := (31, _, [.null, .ref 10], _, 0, 0)) rfl ?_
  refine pm_go (g := (34, _, [], hq g (hc1 xTc xFc xRc xVc xLr xFl) (hc2 xTn) (hc3 xPa) (hc4 xUp) (hc5 xMn xSt xAb xVa) (hc6 xAl) (hc7 xHa) (hc8 xNm) (hc9 xBy xBs) (hc10 (.ref (q + 50)) 1 0 0 .null) (hc11 xA2 xF2 xT2 xP2 xD2) (hc12 xTl) (hc13 xKi) (hc14 xAm) (hc15 xPl) (hc16 xCs xCo xCa) (hc17 xGo) (hc18 xOl xKn) (hc19 xKe) (hc20 xTo) (hc21 xFa) (hc22 xRe) (hc23 xVl) (hc24 xAr) c25 c26 c27 c28 c29 c30 c31 c32 c33 c34 c35 c36 c37 c38 c39 c40 c41 c42 c43 c44 c45 c46 c47 c48 c49 dyn, 0, 0)) rfl ?_
  refine pm_go (g := (36, _, [.int b], _, 0, 0)) rfl ?_
  refine pm_if2 (g := (65, [(0, .ref 10), (1, .int t), (2, .int w), (3, .ref (q + 50)), (4, .int b)], [], hq g (hc1 xTc xFc xRc xVc xLr xFl) (hc2 xTn) (hc3 xPa) (hc4 xUp) (hc5 xMn xSt xAb xVa) (hc6 xAl) (hc7 xHa) (hc8 xNm) (hc9 xBy xBs) (hc10 (.ref (q + 50)) 1 0 0 .null) (hc11 xA2 xF2 xT2 xP2 xD2) (hc12 xTl) (hc13 xKi) (hc14 xAm) (hc15 xPl) (hc16 xCs xCo xCa) (hc17 xGo) (hc18 xOl xKn) (hc19 xKe) (hc20 xTo) (hc21 xFa) (hc22 xRe) (hc23 xVl) (hc24 xAr) c25 c26 c27 c28 c29 c30 c31 c32 c33 c34 c35 c36 c37 c38 c39 c40 c41 c42 c43 c44 c45 c46 c47 c48 c49 dyn, 0, 0)) (h := (39, [(0, .ref 10), (1, .int t), (2, .int w), (3, .ref (q + 50)), (4, .int b)], [], hq g (hc1 xTc xFc xRc xVc xLr xFl) (hc2 xTn) (hc3 xPa) (hc4 xUp) (hc5 xMn xSt xAb xVa) (hc6 xAl) (hc7 xHa) (hc8 xNm) (hc9 xBy xBs) (hc10 (.ref (q + 50)) 1 0 0 .null) (hc11 xA2 xF2 xT2 xP2 xD2) (hc12 xTl) (hc13 xKi) (hc14 xAm) (hc15 xPl) (hc16 xCs xCo xCa) (hc17 xGo) (hc18 xOl xKn) (hc19 xKe) (hc20 xTo) (hc21 xFa) (hc22 xRe) (hc23 xVl) (hc24 xAr) c25 c26 c27 c28 c29 c30 c31 c32 c33 c34 c35 c36 c37 c38 c39 c40 c41 c42 c43 c44 c45 c46 c47 c48 c49 dyn, 0, 0)) rfl (fun h20 => ?_) (fun h20 => ?_)
  ·
    have h20 := qT_eq (cx := (b).toInt) (cy := 0) rfl (by decide) h20
    exfalso; omega
  have h20 := qF_eq (cx := (b).toInt) (cy := 0) rfl (by decide) h20
  refine pm_go (g := (40, _, [.ref 10], _, 0, 0)) rfl ?_
  refine pm_go (g := (43, _, [.ref (q + 50)], _, 0, 0)) rfl ?_
  refine pm_alD rfl (hq_at.trans h1) ?_
  show pm_WP 53 (44, [(0, .ref 10), (1, .int t), (2, .int w), (3, .ref (q + 50)), (4, .int b)], [.int (nI n_q)], hq g (hc1 xTc xFc xRc xVc xLr xFl) (hc2 xTn) (hc3 xPa) (hc4 xUp) (hc5 xMn xSt xAb xVa) (hc6 xAl) (hc7 xHa) (hc8 xNm) (hc9 xBy xBs) (hc10 (.ref (q + 50)) 1 0 0 .null) (hc11 xA2 xF2 xT2 xP2 xD2) (hc12 xTl) (hc13 xKi) (hc14 xAm) (hc15 xPl) (hc16 xCs xCo xCa) (hc17 xGo) (hc18 xOl xKn) (hc19 xKe) (hc20 xTo) (hc21 xFa) (hc22 xRe) (hc23 xVl) (hc24 xAr) c25 c26 c27 c28 c29 c30 c31 c32 c33 c34 c35 c36 c37 c38 c39 c40 c41 c42 c43 c44 c45 c46 c47 c48 c49 dyn, 0, 0) _
  have h21 := nI_toInt (n := n_q) (by omega)
  refine pm_if2 (g := (64, [(0, .ref 10), (1, .int t), (2, .int w), (3, .ref (q + 50)), (4, .int b)], [], hq g (hc1 xTc xFc xRc xVc xLr xFl) (hc2 xTn) (hc3 xPa) (hc4 xUp) (hc5 xMn xSt xAb xVa) (hc6 xAl) (hc7 xHa) (hc8 xNm) (hc9 xBy xBs) (hc10 (.ref (q + 50)) 1 0 0 .null) (hc11 xA2 xF2 xT2 xP2 xD2) (hc12 xTl) (hc13 xKi) (hc14 xAm) (hc15 xPl) (hc16 xCs xCo xCa) (hc17 xGo) (hc18 xOl xKn) (hc19 xKe) (hc20 xTo) (hc21 xFa) (hc22 xRe) (hc23 xVl) (hc24 xAr) c25 c26 c27 c28 c29 c30 c31 c32 c33 c34 c35 c36 c37 c38 c39 c40 c41 c42 c43 c44 c45 c46 c47 c48 c49 dyn, 0, 0)) (h := (47, [(0, .ref 10), (1, .int t), (2, .int w), (3, .ref (q + 50)), (4, .int b)], [], hq g (hc1 xTc xFc xRc xVc xLr xFl) (hc2 xTn) (hc3 xPa) (hc4 xUp) (hc5 xMn xSt xAb xVa) (hc6 xAl) (hc7 xHa) (hc8 xNm) (hc9 xBy xBs) (hc10 (.ref (q + 50)) 1 0 0 .null) (hc11 xA2 xF2 xT2 xP2 xD2) (hc12 xTl) (hc13 xKi) (hc14 xAm) (hc15 xPl) (hc16 xCs xCo xCa) (hc17 xGo) (hc18 xOl xKn) (hc19 xKe) (hc20 xTo) (hc21 xFa) (hc22 xRe) (hc23 xVl) (hc24 xAr) c25 c26 c27 c28 c29 c30 c31 c32 c33 c34 c35 c36 c37 c38 c39 c40 c41 c42 c43 c44 c45 c46 c47 c48 c49 dyn, 0, 0)) rfl (fun h22 => ?_) (fun h22 => ?_)
  ·
    have h22 := qT_eq (cx := (nI n_q).toInt) (cy := 0) rfl (by decide) h22
    have hz0 : (0 : Int32).toNatClampNeg = 0 := by decide
    first | exact pm_ret rfl (k0 1 0 0 .null none (Or.inl ⟨rfl, rfl⟩) (Or.inl ⟨⟨by omega, Or.inl (by omega)⟩, rfl, rfl, rfl, rfl⟩))
  have h22 := qF_eq (cx := (nI n_q).toInt) (cy := 0) rfl (by decide) h22
  refine pm_go (g := (48, _, [.ref 10], _, 0, 0)) rfl ?_
  refine pm_go (g := (51, _, [.ref 2], _, 0, 0)) rfl ?_
  refine pm_go (g := (52, _, [.ref 10, .ref 2], _, 0, 0)) rfl ?_
  refine pm_go (g := (55, _, [.ref (q + 50), .ref 2], _, 0, 0)) rfl ?_
  refine pm_go (g := (56, _, [.int 0, .ref (q + 50), .ref 2], _, 0, 0)) rfl ?_
  have h23 : (0 : Int32).toInt = 0 := by decide
  refine pm_iaD rfl (hq_at.trans h1) (pm_inI (by omega) (by omega)) ?_
  show pm_WP 53 (57, [(0, .ref 10), (1, .int t), (2, .int w), (3, .ref (q + 50)), (4, .int b)], [.int (f_q (0 : Int32).toNatClampNeg), .ref 2], hq g (hc1 xTc xFc xRc xVc xLr xFl) (hc2 xTn) (hc3 xPa) (hc4 xUp) (hc5 xMn xSt xAb xVa) (hc6 xAl) (hc7 xHa) (hc8 xNm) (hc9 xBy xBs) (hc10 (.ref (q + 50)) 1 0 0 .null) (hc11 xA2 xF2 xT2 xP2 xD2) (hc12 xTl) (hc13 xKi) (hc14 xAm) (hc15 xPl) (hc16 xCs xCo xCa) (hc17 xGo) (hc18 xOl xKn) (hc19 xKe) (hc20 xTo) (hc21 xFa) (hc22 xRe) (hc23 xVl) (hc24 xAr) c25 c26 c27 c28 c29 c30 c31 c32 c33 c34 c35 c36 c37 c38 c39 c40 c41 c42 c43 c44 c45 c46 c47 c48 c49 dyn, 0, 0) _
  refine pm_go (g := (58, _, [.int t, .int (f_q (0 : Int32).toNatClampNeg), .ref 2], _, 0, 0)) rfl ?_
  refine pm_callD (z := 87) (as := [.ref 2, .int (f_q (0 : Int32).toNatClampNeg), .int t]) (rest := []) rfl ?_
  have h24 : (0 : Int32).toInt = 0 := by decide
  have h25 : (1 : Int32).toInt = 1 := by decide
  refine f_X9_isUnder (f_q (0 : Int32).toNatClampNeg) t (fun h26 => ?_) (fun h27 => ?_)
  ·
    show pm_WP 53 (61, [(0, .ref 10), (1, .int t), (2, .int w), (3, .ref (q + 50)), (4, .int b)], [.int 1], _, 0, 0) _
    refine pm_brT (g := (65, [(0, .ref 10), (1, .int t), (2, .int w), (3, .ref (q + 50)), (4, .int b)], [], hq g (hc1 xTc xFc xRc xVc xLr xFl) (hc2 xTn) (hc3 xPa) (hc4 xUp) (hc5 xMn xSt xAb xVa) (hc6 xAl) (hc7 xHa) (hc8 xNm) (hc9 xBy xBs) (hc10 (.ref (q + 50)) 1 0 0 .null) (hc11 xA2 xF2 xT2 xP2 xD2) (hc12 xTl) (hc13 xKi) (hc14 xAm) (hc15 xPl) (hc16 xCs xCo xCa) (hc17 xGo) (hc18 xOl xKn) (hc19 xKe) (hc20 xTo) (hc21 xFa) (hc22 xRe) (hc23 xVl) (hc24 xAr) c25 c26 c27 c28 c29 c30 c31 c32 c33 c34 c35 c36 c37 c38 c39 c40 c41 c42 c43 c44 c45 c46 c47 c48 c49 dyn, 0, 0)) rfl ?_
    refine pm_go (g := (66, _, [.ref 10], _, 0, 0)) rfl ?_
    refine pm_go (g := (69, _, [.ref 5], _, 0, 0)) rfl ?_
    refine pm_go (g := (70, _, [.int t, .ref 5], _, 0, 0)) rfl ?_
    refine pm_go (g := (71, _, [.int w, .int t, .ref 5], _, 0, 0)) rfl ?_
    refine pm_callD (z := 42) (as := [.ref 5, .int t, .int w]) (rest := []) rfl ?_
    have h29 : (0 : Int32).toInt = 0 := by decide
    have h30 : (1 : Int32).toInt = 1 := by decide
    refine f_X4_namedIn t w ?_
    show pm_WP 53 (74, [(0, .ref 10), (1, .int t), (2, .int w), (3, .ref (q + 50)), (4, .int b)], [.long (nmX xHa xNm t w)], _, 0, 0) _
    refine pm_go (g := (76, [(5, .long (nmX xHa xNm t w)), (0, .ref 10), (1, .int t), (2, .int w), (3, .ref (q + 50)), (4, .int b)], [], _, 0, 0)) rfl ?_
    refine pm_go (g := (77, _, [.int 1], _, 0, 0)) rfl ?_
    refine pm_go (g := (79, [(7, .int 1), (5, .long (nmX xHa xNm t w)), (0, .ref 10), (1, .int t), (2, .int w), (3, .ref (q + 50)), (4, .int b)], [], _, 0, 0)) rfl ?_
    refine pm_sub (lv := [(7, .int 1), (0, .ref 10), (5, .long (nmX xHa xNm t w))]) ?_ ⟨le_c (List.Mem.head _) (le_c (List.Mem.tail _ (List.Mem.tail _ (List.Mem.head _))) (le_c (List.Mem.tail _ (List.Mem.head _)) le_n)), (show ([7, 5, 0, 1, 2, 3, 4] : List Nat).Nodup by decide)⟩
    have h35 : (1 : Int32).toInt = 1 := by decide
    refine f_X6_run_10_l (xF1 := 1) (xT1 := xT1) (xP1 := xP1) (nmX xHa xNm t w) q n_q f_q a_q (by decide) p0 p1 5 1 _ _ (by omega) (by omega) (Or.inl ⟨rfl, rfl, fun p q1 q2 => by omega⟩) (fun t32 y33 r34 => ?_)
    show pm_WP 53 (108, [(0, .ref 10)], [], _, 0, 0) _
    refine pm_go (g := (109, _, [.ref 10], _, 0, 0)) rfl ?_
    refine pm_go (g := (110, _, [.ref 10, .ref 10], _, 0, 0)) rfl ?_
    refine pm_callD (z := 60) (as := [.ref 10]) (rest := [.ref 10]) rfl ?_
    have h36 : (1 : Int32).toInt = 1 := by decide
    refine f_X6_mostSpecial_10 q n_q f_q ⟨h1, by omega⟩ (by omega) (by omega) (by first | assumption | rfl) (fun h37 => ?_) (fun v39_j9 v39_b9 h38 h39 => ?_)
    ·
      show pm_WP 53 (113, [(0, .ref 10)], [.null, .ref 10], _, 0, 0) _
      refine pm_go (g := (116, _, [], _, 0, 0)) rfl ?_
      have hz0 : (0 : Int32).toNatClampNeg = 0 := by decide
      rw [hz0] at h26
      exact pm_ret rfl (k0 _ _ _ .null none (Or.inl ⟨rfl, rfl⟩) (Or.inr ⟨(by rintro ⟨q1, q2 | q2⟩ <;> first | omega | contradiction), Or.inl ⟨by omega, rfl⟩, r34, Or.inr ⟨rfl, h37⟩⟩))
    show pm_WP 53 (113, [(0, .ref 10)], [.ref (v39_j9 + 50), .ref 10], hq g (hc1 xTc xFc xRc xVc xLr xFl) (hc2 xTn) (hc3 xPa) (hc4 xUp) (hc5 xMn xSt xAb xVa) (hc6 xAl) (hc7 xHa) (hc8 xNm) (hc9 xBy xBs) (hc10 (.ref (q + 50)) 1 t32 y33 .null) (hc11 xA2 xF2 xT2 xP2 xD2) (hc12 xTl) (hc13 xKi) (hc14 xAm) (hc15 xPl) (hc16 xCs xCo xCa) (hc17 xGo) (hc18 xOl xKn) (hc19 xKe) (hc20 xTo) (hc21 xFa) (hc22 xRe) (hc23 xVl) (hc24 xAr) c25 c26 c27 c28 c29 c30 c31 c32 c33 c34 c35 c36 c37 c38 c39 c40 c41 c42 c43 c44 c45 c46 c47 c48 c49 dyn, 0, 0) _
    obtain ⟨pw41, h42, h43, h44⟩ := id h38
    refine pm_go (g := (116, _, [], hq g (hc1 xTc xFc xRc xVc xLr xFl) (hc2 xTn) (hc3 xPa) (hc4 xUp) (hc5 xMn xSt xAb xVa) (hc6 xAl) (hc7 xHa) (hc8 xNm) (hc9 xBy xBs) (hc10 (.ref (q + 50)) 1 t32 y33 (.ref (v39_j9 + 50))) (hc11 xA2 xF2 xT2 xP2 xD2) (hc12 xTl) (hc13 xKi) (hc14 xAm) (hc15 xPl) (hc16 xCs xCo xCa) (hc17 xGo) (hc18 xOl xKn) (hc19 xKe) (hc20 xTo) (hc21 xFa) (hc22 xRe) (hc23 xVl) (hc24 xAr) c25 c26 c27 c28 c29 c30 c31 c32 c33 c34 c35 c36 c37 c38 c39 c40 c41 c42 c43 c44 c45 c46 c47 c48 c49 dyn, 0, 0)) rfl ?_
    have hz0 : (0 : Int32).toNatClampNeg = 0 := by decide
    rw [hz0] at h26
    exact pm_ret rfl (k0 _ _ _ _ _ (Or.inr ⟨_, _, rfl, rfl, h38⟩) (Or.inr ⟨(by rintro ⟨q1, q2 | q2⟩ <;> first | omega | contradiction), Or.inl ⟨by omega, rfl⟩, r34, Or.inl ⟨_, rfl, h39⟩⟩))
  show pm_WP 53 (61, [(0, .ref 10), (1, .int t), (2, .int w), (3, .ref (q + 50)), (4, .int b)], [.int 0], hq g (hc1 xTc xFc xRc xVc xLr xFl) (hc2 xTn) (hc3 xPa) (hc4 xUp) (hc5 xMn xSt xAb xVa) (hc6 xAl) (hc7 xHa) (hc8 xNm) (hc9 xBy xBs) (hc10 (.ref (q + 50)) 1 0 0 .null) (hc11 xA2 xF2 xT2 xP2 xD2) (hc12 xTl) (hc13 xKi) (hc14 xAm) (hc15 xPl) (hc16 xCs xCo xCa) (hc17 xGo) (hc18 xOl xKn) (hc19 xKe) (hc20 xTo) (hc21 xFa) (hc22 xRe) (hc23 xVl) (hc24 xAr) c25 c26 c27 c28 c29 c30 c31 c32 c33 c34 c35 c36 c37 c38 c39 c40 c41 c42 c43 c44 c45 c46 c47 c48 c49 dyn, 0, 0) _
  refine pm_brF (h := (64, [(0, .ref 10), (1, .int t), (2, .int w), (3, .ref (q + 50)), (4, .int b)], [], hq g (hc1 xTc xFc xRc xVc xLr xFl) (hc2 xTn) (hc3 xPa) (hc4 xUp) (hc5 xMn xSt xAb xVa) (hc6 xAl) (hc7 xHa) (hc8 xNm) (hc9 xBy xBs) (hc10 (.ref (q + 50)) 1 0 0 .null) (hc11 xA2 xF2 xT2 xP2 xD2) (hc12 xTl) (hc13 xKi) (hc14 xAm) (hc15 xPl) (hc16 xCs xCo xCa) (hc17 xGo) (hc18 xOl xKn) (hc19 xKe) (hc20 xTo) (hc21 xFa) (hc22 xRe) (hc23 xVl) (hc24 xAr) c25 c26 c27 c28 c29 c30 c31 c32 c33 c34 c35 c36 c37 c38 c39 c40 c41 c42 c43 c44 c45 c46 c47 c48 c49 dyn, 0, 0)) rfl ?_
  have hz0 : (0 : Int32).toNatClampNeg = 0 := by decide
  first | exact pm_ret rfl (k0 1 0 0 .null none (Or.inl ⟨rfl, rfl⟩) (Or.inl ⟨⟨by omega, Or.inl (by omega)⟩, rfl, rfl, rfl, rfl⟩)) | (rw [hz0] at h27; exact pm_ret rfl (k0 1 0 0 .null none (Or.inl ⟨rfl, rfl⟩) (Or.inl ⟨⟨by omega, Or.inr h27⟩, rfl, rfl, rfl, rfl⟩)))
set_option maxRecDepth 100000 in
set_option maxHeartbeats 4000000 in
theorem f_X6_argumentCount_11 {g c25 c26 c27 c28 c29 c30 c31 c32 c33 c34 c35 c36 c37 c38 c39 c40 c41 c42 c43 c44 c45 c46 c47 c48 c49 : pm_C} {dyn : pm_H} {xTc : Int32} {xFc : Int32} {xRc : Int32} {xVc : Int32} {xLr : Int32} {xFl : Int32} {xTn : Int32} {xMn : Int32} {xSt : Int64} {xAb : Int64} {xVa : Int64} {xBy : Value} {xBs : Int32} {xA1 : Value} {xF1 : Int32} {xT1 : Int64} {xP1 : Int32} {xD1 : Value} {xF2 : Int32} {xT2 : Int64} {xP2 : Int32} {xD2 : Value} {xTl : Int32} {xCs : Int32} {xCo : Int32} {xCa : Value} {xOl : Int32} {xKn : Int32} {xPa : Nat → Int32} {xUp : Nat → Int32} {xAl : Nat → Option Nat} {xHa : Nat → Int64} {xNm : Nat → Int64} {xKi : Nat → Int32} {xAm : Nat → Int32} {xPl : Nat → Int32} {xGo : Nat → Int32} {xKe : Nat → Int32} {xTo : Nat → Int32} {xFa : Nat → Option Nat} {xRe : Nat → Option Nat} {xVl : Nat → Option Nat} {xAr : Nat → Int32} {Q : pm_Q} (q n_q : Nat) (f_q : Nat → Int32) (a_q : isAr dyn q n_q f_q) (p0 : 0 ≤ xF2.toInt ∧ xF2.toInt ≤ 1) (k0 : ∀ (r9 : Int32), (r9.toInt = (n_q : Int) - xF2.toInt) → Q (some (.int r9)) (hq g (hc1 xTc xFc xRc xVc xLr xFl) (hc2 xTn) (hc3 xPa) (hc4 xUp) (hc5 xMn xSt xAb xVa) (hc6 xAl) (hc7 xHa) (hc8 xNm) (hc9 xBy xBs) (hc10 xA1 xF1 xT1 xP1 xD1) (hc11 (.ref (q + 50)) xF2 xT2 xP2 xD2) (hc12 xTl) (hc13 xKi) (hc14 xAm) (hc15 xPl) (hc16 xCs xCo xCa) (hc17 xGo) (hc18 xOl xKn) (hc19 xKe) (hc20 xTo) (hc21 xFa) (hc22 xRe) (hc23 xVl) (hc24 xAr) c25 c26 c27 c28 c29 c30 c31 c32 c33 c34 c35 c36 c37 c38 c39 c40 c41 c42 c43 c44 c45 c46 c47 c48 c49 dyn)) : pm_WP 57 (0, [(0, .ref 11)], [], hq g (hc1 xTc xFc xRc xVc xLr xFl) (hc2 xTn) (hc3 xPa) (hc4 xUp) (hc5 xMn xSt xAb xVa) (hc6 xAl) (hc7 xHa) (hc8 xNm) (hc9 xBy xBs) (hc10 xA1 xF1 xT1 xP1 xD1) (hc11 (.ref (q + 50)) xF2 xT2 xP2 xD2) (hc12 xTl) (hc13 xKi) (hc14 xAm) (hc15 xPl) (hc16 xCs xCo xCa) (hc17 xGo) (hc18 xOl xKn) (hc19 xKe) (hc20 xTo) (hc21 xFa) (hc22 xRe) (hc23 xVl) (hc24 xAr) c25 c26 c27 c28 c29 c30 c31 c32 c33 c34 c35 c36 c37 c38 c39 c40 c41 c42 c43 c44 c45 c46 c47 c48 c49 dyn, 0, 0) Q := by
  obtain ⟨h1, h2⟩ := id a_q
  refine pm_go (g := (1, [(0, .ref 11)], [.ref 11], hq g (hc1 xTc xFc xRc xVc xLr xFl) (hc2 xTn) (hc3 xPa) (hc4 xUp) (hc5 xMn xSt xAb xVa) (hc6 xAl) (hc7 xHa) (hc8 xNm) (hc9 xBy xBs) (hc10 xA1 xF1 xT1 xP1 xD1) (hc11 (.ref (q + 50)) xF2 xT2 xP2 xD2) (hc12 xTl) (hc13 xKi) (hc14 xAm) (hc15 xPl) (hc16 xCs xCo xCa) (hc17 xGo) (hc18 xOl xKn) (hc19 xKe) (hc20 xTo) (hc21 xFa) (hc22 xRe) (hc23 xVl) (hc24 xAr) c25 c26 c27 c28 c29 c30 c31 c32 c33 c34 c35 c36 c37 c38 c39 c40 c41 c42 c43 c44 c45 c46 c47 c48 c49 dyn, 0, 0)) rfl ?_
  refine pm_go (g := (4, _, [.ref (q + 50)], _, 0, 0)) rfl ?_
  refine pm_alD rfl (hq_at.trans h1) ?_
  show pm_WP 57 (5, [(0, .ref 11)], [.int (nI n_q)], hq g (hc1 xTc xFc xRc xVc xLr xFl) (hc2 xTn) (hc3 xPa) (hc4 xUp) (hc5 xMn xSt xAb xVa) (hc6 xAl) (hc7 xHa) (hc8 xNm) (hc9 xBy xBs) (hc10 xA1 xF1 xT1 xP1 xD1) (hc11 (.ref (q + 50)) xF2 xT2 xP2 xD2) (hc12 xTl) (hc13 xKi) (hc14 xAm) (hc15 xPl) (hc16 xCs xCo xCa) (hc17 xGo) (hc18 xOl xKn) (hc19 xKe) (hc20 xTo) (hc21 xFa) (hc22 xRe) (hc23 xVl) (hc24 xAr) c25 c26 c27 c28 c29 c30 c31 c32 c33 c34 c35 c36 c37 c38 c39 c40 c41 c42 c43 c44 c45 c46 c47 c48 c49 dyn, 0, 0) _
  have h3 := nI_toInt (n := n_q) (by omega)
  refine pm_go (g := (6, _, [.ref 11, .int (nI n_q)], _, 0, 0)) rfl ?_
  refine pm_go (g := (9, _, [.int xF2, .int (nI n_q)], _, 0, 0)) rfl ?_
  refine pm_go (g := (10, _, [.int ((nI n_q) - xF2)], _, 0, 0)) rfl ?_
  try have h4 : ((nI n_q) - xF2).toInt = (nI n_q).toInt - (xF2).toInt := iSub (x := (nI n_q).toInt) (y := (xF2).toInt) rfl rfl (by omega) (by omega)
  first | exact pm_ret rfl (k0 _ (by first | omega | assumption | decide | (simp only [*]; done))) | (exfalso; omega)
set_option maxRecDepth 100000 in
set_option maxHeartbeats 4000000 in
theorem f_X6_fits_11_l {g c25 c26 c27 c28 c29 c30 c31 c32 c33 c34 c35 c36 c37 c38 c39 c40 c41 c42 c43 c44 c45 c46 c47 c48 c49 : pm_C} {dyn : pm_H} {dOt dNa dRe dMa dMy dPm : Nat → Int32} {xTc : Int32} {xFc : Int32} {xRc : Int32} {xVc : Int32} {xLr : Int32} {xFl : Int32} {xTn : Int32} {xMn : Int32} {xSt : Int64} {xAb : Int64} {xVa : Int64} {xBy : Value} {xBs : Int32} {xA1 : Value} {xF1 : Int32} {xT1 : Int64} {xP1 : Int32} {xD1 : Value} {xF2 : Int32} {xT2 : Int64} {xP2 : Int32} {xD2 : Value} {xTl : Int32} {xCs : Int32} {xCo : Int32} {xCa : Value} {xOl : Int32} {xKn : Int32} {xPa : Nat → Int32} {xUp : Nat → Int32} {xAl : Nat → Option Nat} {xHa : Nat → Int64} {xNm : Nat → Int64} {xKi : Nat → Int32} {xAm : Nat → Int32} {xPl : Nat → Int32} {xGo : Nat → Int32} {xKe : Nat → Int32} {xTo : Nat → Int32} {xFa : Nat → Option Nat} {xRe : Nat → Option Nat} {xVl : Nat → Option Nat} {xAr : Nat → Int32} {Q : pm_Q} (ph : Int32) (m i_m : Nat) (q n_q : Nat) (f_q : Nat → Int32) (a_m : mbF dOt dNa dRe dMa dMy dPm dyn m i_m) (a_q : isAr dyn q n_q f_q) (p0 : 0 ≤ xF2.toInt ∧ xF2.toInt ≤ 1) : ∀ (n k : Nat), (k ≤ 3) → (3 < k + n) → (fjL xUp dMy dPm n_q f_q xF2 i_m ph k → Q (some (.int 1)) (hq g (hc1 xTc xFc xRc xVc xLr xFl) (hc2 xTn) (hc3 xPa) (hc4 xUp) (hc5 xMn xSt xAb xVa) (hc6 xAl) (hc7 xHa) (hc8 xNm) (hc9 xBy xBs) (hc10 xA1 xF1 xT1 xP1 xD1) (hc11 (.ref (q + 50)) xF2 xT2 xP2 xD2) (hc12 xTl) (hc13 xKi) (hc14 xAm) (hc15 xPl) (hc16 xCs xCo xCa) (hc17 xGo) (hc18 xOl xKn) (hc19 xKe) (hc20 xTo) (hc21 xFa) (hc22 xRe) (hc23 xVl) (hc24 xAr) c25 c26 c27 c28 c29 c30 c31 c32 c33 c34 c35 c36 c37 c38 c39 c40 c41 c42 c43 c44 c45 c46 c47 c48 c49 dyn)) → (¬ fjL xUp dMy dPm n_q f_q xF2 i_m ph k → Q (some (.int 0)) (hq g (hc1 xTc xFc xRc xVc xLr xFl) (hc2 xTn) (hc3 xPa) (hc4 xUp) (hc5 xMn xSt xAb xVa) (hc6 xAl) (hc7 xHa) (hc8 xNm) (hc9 xBy xBs) (hc10 xA1 xF1 xT1 xP1 xD1) (hc11 (.ref (q + 50)) xF2 xT2 xP2 xD2) (hc12 xTl) (hc13 xKi) (hc14 xAm) (hc15 xPl) (hc16 xCs xCo xCa) (hc17 xGo) (hc18 xOl xKn) (hc19 xKe) (hc20 xTo) (hc21 xFa) (hc22 xRe) (hc23 xVl) (hc24 xAr) c25 c26 c27 c28 c29 c30 c31 c32 c33 c34 c35 c36 c37 c38 c39 c40 c41 c42 c43 c44 c45 c46 c47 c48 c49 dyn)) → pm_WP 59 (44, [(4, .int (nI k)), (0, .ref 11), (1, .ref (m + 50)), (2, .int ph)], [], hq g (hc1 xTc xFc xRc xVc xLr xFl) (hc2 xTn) (hc3 xPa) (hc4 xUp) (hc5 xMn xSt xAb xVa) (hc6 xAl) (hc7 xHa) (hc8 xNm) (hc9 xBy xBs) (hc10 xA1 xF1 xT1 xP1 xD1) (hc11 (.ref (q + 50)) xF2 xT2 xP2 xD2) (hc12 xTl) (hc13 xKi) (hc14 xAm) (hc15 xPl) (hc16 xCs xCo xCa) (hc17 xGo) (hc18 xOl xKn) (hc19 xKe) (hc20 xTo) (hc21 xFa) (hc22 xRe) (hc23 xVl) (hc24 xAr) c25 c26 c27 c28 c29 c30 c31 c32 c33 c34 c35 c36 c37 c38 c39 c40 c41 c42 c43 c44 c45 c46 c47 c48 c49 dyn, 0, 0) Q := by
  intro n
  induction n with
  | zero =>
    intro k g1 g2 k0 k1
    exfalso; omega
  | succ n ih =>
    intro k g1 g2 k0 k1
    have hk := nI_toInt (n := k) (by omega)
    have hkc : (nI k).toNatClampNeg = k := nI_clamp (by omega)
    obtain ⟨pw1, h2, h3, h4⟩ := id a_m
    obtain ⟨h5, h6⟩ := id a_q
    refine pm_go (g := (46, [(4, .int (nI k)), (0, .ref 11), (1, .ref (m + 50)), (2, .int ph)], [.int (nI k)], hq g (hc1 xTc xFc xRc xVc xLr xFl) (hc2 xTn) (hc3 xPa) (hc4 xUp) (hc5 xMn xSt xAb xVa) (hc6 xAl) (hc7 xHa) (hc8 xNm) (hc9 xBy xBs) (hc10 xA1 xF1 xT1 xP1 xD1) (hc11 (.ref (q + 50)) xF2 xT2 xP2 xD2) (hc12 xTl) (hc13 xKi) (hc14 xAm) (hc15 xPl) (hc16 xCs xCo xCa) (hc17 xGo) (hc18 xOl xKn) (hc19 xKe) (hc20 xTo) (hc21 xFa) (hc22 xRe) (hc23 xVl) (hc24 xAr) c25 c26 c27 c28 c29 c30 c31 c32 c33 c34 c35 c36 c37 c38 c39 c40 c41 c42 c43 c44 c45 c46 c47 c48 c49 dyn, 0, 0)) rfl ?_
    refine pm_go (g := (47, _, [.ref 11, .int (nI k)], _, 0, 0)) rfl ?_
    refine pm_callD (z := 57) (as := [.ref 11]) (rest := [.int (nI k)]) rfl ?_
    refine f_X6_argumentCount_11 q n_q f_q ⟨h5, by omega⟩ (by omega) (fun v7_r9 h7 => ?_)
    show pm_WP 59 (50, [(4, .int (nI k)), (0, .ref 11), (1, .ref (m + 50)), (2, .int ph)], [.int v7_r9, .int (nI k)], _, 0, 0) _
    refine pm_if2 (g := (120, [(4, .int (nI k)), (0, .ref 11), (1, .ref (m + 50)), (2, .int ph)], [], hq g (hc1 xTc xFc xRc xVc xLr xFl) (hc2 xTn) (hc3 xPa) (hc4 xUp) (hc5 xMn xSt xAb xVa) (hc6 xAl) (hc7 xHa) (hc8 xNm) (hc9 xBy xBs) (hc10 xA1 xF1 xT1 xP1 xD1) (hc11 (.ref (q + 50)) xF2 xT2 xP2 xD2) (hc12 xTl) (hc13 xKi) (hc14 xAm) (hc15 xPl) (hc16 xCs xCo xCa) (hc17 xGo) (hc18 xOl xKn) (hc19 xKe) (hc20 xTo) (hc21 xFa) (hc22 xRe) (hc23 xVl) (hc24 xAr) c25 c26 c27 c28 c29 c30 c31 c32 c33 c34 c35 c36 c37 c38 c39 c40 c41 c42 c43 c44 c45 c46 c47 c48 c49 dyn, 0, 0)) (h := (53, [(4, .int (nI k)), (0, .ref 11), (1, .ref (m + 50)), (2, .int ph)], [], hq g (hc1 xTc xFc xRc xVc xLr xFl) (hc2 xTn) (hc3 xPa) (hc4 xUp) (hc5 xMn xSt xAb xVa) (hc6 xAl) (hc7 xHa) (hc8 xNm) (hc9 xBy xBs) (hc10 xA1 xF1 xT1 xP1 xD1) (hc11 (.ref (q + 50)) xF2 xT2 xP2 xD2) (hc12 xTl) (hc13 xKi) (hc14 xAm) (hc15 xPl) (hc16 xCs xCo xCa) (hc17 xGo) (hc18 xOl xKn) (hc19 xKe) (hc20 xTo) (hc21 xFa) (hc22 xRe) (hc23 xVl) (hc24 xAr) c25 c26 c27 c28 c29 c30 c31 c32 c33 c34 c35 c36 c37 c38 c39 c40 c41 c42 c43 c44 c45 c46 c47 c48 c49 dyn, 0, 0)) rfl (fun h9 => ?_) (fun h9 => ?_)
    ·
      have h9 := qT_ge (cx := (nI k).toInt) (cy := (v7_r9).toInt) rfl rfl h9
      refine pm_go (g := (121, _, [.int 1], _, 0, 0)) rfl ?_
      exact pm_ret rfl (k0 (fun j q1 q2 => by omega))
    have h9 := qF_ge (cx := (nI k).toInt) (cy := (v7_r9).toInt) rfl rfl h9
    refine pm_go (g := (54, _, [.ref 11], _, 0, 0)) rfl ?_
    refine pm_go (g := (57, _, [.ref (q + 50)], _, 0, 0)) rfl ?_
    refine pm_go (g := (58, _, [.ref 11, .ref (q + 50)], _, 0, 0)) rfl ?_
    refine pm_go (g := (61, _, [.int xF2, .ref (q + 50)], _, 0, 0)) rfl ?_
    refine pm_go (g := (63, _, [.int (nI k), .int xF2, .ref (q + 50)], _, 0, 0)) rfl ?_
    refine pm_go (g := (64, _, [.int (xF2 + (nI k)), .ref (q + 50)], _, 0, 0)) rfl ?_
    try have h10 : (xF2 + (nI k)).toInt = (xF2).toInt + (nI k).toInt := iAdd (x := (xF2).toInt) (y := (nI k).toInt) rfl rfl (by omega) (by omega)
    refine pm_iaD rfl (hq_at.trans h5) (pm_inI (by omega) (by omega)) ?_
    show pm_WP 59 (65, [(4, .int (nI k)), (0, .ref 11), (1, .ref (m + 50)), (2, .int ph)], [.int (f_q (xF2 + (nI k) : Int32).toNatClampNeg)], hq g (hc1 xTc xFc xRc xVc xLr xFl) (hc2 xTn) (hc3 xPa) (hc4 xUp) (hc5 xMn xSt xAb xVa) (hc6 xAl) (hc7 xHa) (hc8 xNm) (hc9 xBy xBs) (hc10 xA1 xF1 xT1 xP1 xD1) (hc11 (.ref (q + 50)) xF2 xT2 xP2 xD2) (hc12 xTl) (hc13 xKi) (hc14 xAm) (hc15 xPl) (hc16 xCs xCo xCa) (hc17 xGo) (hc18 xOl xKn) (hc19 xKe) (hc20 xTo) (hc21 xFa) (hc22 xRe) (hc23 xVl) (hc24 xAr) c25 c26 c27 c28 c29 c30 c31 c32 c33 c34 c35 c36 c37 c38 c39 c40 c41 c42 c43 c44 c45 c46 c47 c48 c49 dyn, 0, 0) _
    refine pm_go (g := (67, [(5, .int (f_q (xF2 + (nI k) : Int32).toNatClampNeg)), (4, .int (nI k)), (0, .ref 11), (1, .ref (m + 50)), (2, .int ph)], [], _, 0, 0)) rfl ?_
    refine pm_go (g := (68, _, [.ref (m + 50)], _, 0, 0)) rfl ?_
    refine pm_go (g := (70, _, [.int (nI k), .ref (m + 50)], _, 0, 0)) rfl ?_
    refine pm_go (g := (71, _, [.int ph, .int (nI k), .ref (m + 50)], _, 0, 0)) rfl ?_
    refine pm_ivD (r := m + 50) (as := [.int (nI k), .int ph]) (rest := []) rfl rfl (hq_at.trans h2) rfl ?_
    refine f_X3_typeAt m i_m (nI k) ph a_m (by omega) ?_
    show pm_WP 59 (74, [(5, .int (f_q (xF2 + (nI k) : Int32).toNatClampNeg)), (4, .int (nI k)), (0, .ref 11), (1, .ref (m + 50)), (2, .int ph)], [.int (tyM dMy dPm i_m (nI k).toNatClampNeg ph)], _, 0, 0) _
    refine pm_go (g := (76, [(6, .int (tyM dMy dPm i_m (nI k).toNatClampNeg ph)), (5, .int (f_q (xF2 + (nI k) : Int32).toNatClampNeg)), (4, .int (nI k)), (0, .ref 11), (1, .ref (m + 50)), (2, .int ph)], [], _, 0, 0)) rfl ?_
    refine pm_go (g := (77, _, [.int ph], _, 0, 0)) rfl ?_
    refine pm_go (g := (78, _, [.int 1, .int ph], _, 0, 0)) rfl ?_
    refine pm_if2 (g := (98, [(6, .int (tyM dMy dPm i_m (nI k).toNatClampNeg ph)), (5, .int (f_q (xF2 + (nI k) : Int32).toNatClampNeg)), (4, .int (nI k)), (0, .ref 11), (1, .ref (m + 50)), (2, .int ph)], [], hq g (hc1 xTc xFc xRc xVc xLr xFl) (hc2 xTn) (hc3 xPa) (hc4 xUp) (hc5 xMn xSt xAb xVa) (hc6 xAl) (hc7 xHa) (hc8 xNm) (hc9 xBy xBs) (hc10 xA1 xF1 xT1 xP1 xD1) (hc11 (.ref (q + 50)) xF2 xT2 xP2 xD2) (hc12 xTl) (hc13 xKi) (hc14 xAm) (hc15 xPl) (hc16 xCs xCo xCa) (hc17 xGo) (hc18 xOl xKn) (hc19 xKe) (hc20 xTo) (hc21 xFa) (hc22 xRe) (hc23 xVl) (hc24 xAr) c25 c26 c27 c28 c29 c30 c31 c32 c33 c34 c35 c36 c37 c38 c39 c40 c41 c42 c43 c44 c45 c46 c47 c48 c49 dyn, 0, 0)) (h := (81, [(6, .int (tyM dMy dPm i_m (nI k).toNatClampNeg ph)), (5, .int (f_q (xF2 + (nI k) : Int32).toNatClampNeg)), (4, .int (nI k)), (0, .ref 11), (1, .ref (m + 50)), (2, .int ph)], [], hq g (hc1 xTc xFc xRc xVc xLr xFl) (hc2 xTn) (hc3 xPa) (hc4 xUp) (hc5 xMn xSt xAb xVa) (hc6 xAl) (hc7 xHa) (hc8 xNm) (hc9 xBy xBs) (hc10 xA1 xF1 xT1 xP1 xD1) (hc11 (.ref (q + 50)) xF2 xT2 xP2 xD2) (hc12 xTl) (hc13 xKi) (hc14 xAm) (hc15 xPl) (hc16 xCs xCo xCa) (hc17 xGo) (hc18 xOl xKn) (hc19 xKe) (hc20 xTo) (hc21 xFa) (hc22 xRe) (hc23 xVl) (hc24 xAr) c25 c26 c27 c28 c29 c30 c31 c32 c33 c34 c35 c36 c37 c38 c39 c40 c41 c42 c43 c44 c45 c46 c47 c48 c49 dyn, 0, 0)) rfl (fun h12 => ?_) (fun h12 => ?_)
    ·
      have h12 := qT_ne (cx := (ph).toInt) (cy := 1) rfl (by decide) h12
      refine pm_go (g := (99, _, [.ref 11], _, 0, 0)) rfl ?_
      refine pm_go (g := (102, _, [.ref 2], _, 0, 0)) rfl ?_
      refine pm_go (g := (104, _, [.int (f_q (xF2 + (nI k) : Int32).toNatClampNeg), .ref 2], _, 0, 0)) rfl ?_
      refine pm_go (g := (106, _, [.int (tyM dMy dPm i_m (nI k).toNatClampNeg ph), .int (f_q (xF2 + (nI k) : Int32).toNatClampNeg), .ref 2], _, 0, 0)) rfl ?_
      refine pm_callD (z := 88) (as := [.ref 2, .int (f_q (xF2 + (nI k) : Int32).toNatClampNeg), .int (tyM dMy dPm i_m (nI k).toNatClampNeg ph)]) (rest := []) rfl ?_
      refine f_X9_isLoose (f_q (xF2 + (nI k) : Int32).toNatClampNeg) (tyM dMy dPm i_m (nI k).toNatClampNeg ph) (fun h13 => ?_) (fun h14 => ?_)
      ·
        show pm_WP 59 (109, [(6, .int (tyM dMy dPm i_m (nI k).toNatClampNeg ph)), (5, .int (f_q (xF2 + (nI k) : Int32).toNatClampNeg)), (4, .int (nI k)), (0, .ref 11), (1, .ref (m + 50)), (2, .int ph)], [.int 1], _, 0, 0) _
        refine pm_brT (g := (114, [(6, .int (tyM dMy dPm i_m (nI k).toNatClampNeg ph)), (5, .int (f_q (xF2 + (nI k) : Int32).toNatClampNeg)), (4, .int (nI k)), (0, .ref 11), (1, .ref (m + 50)), (2, .int ph)], [], hq g (hc1 xTc xFc xRc xVc xLr xFl) (hc2 xTn) (hc3 xPa) (hc4 xUp) (hc5 xMn xSt xAb xVa) (hc6 xAl) (hc7 xHa) (hc8 xNm) (hc9 xBy xBs) (hc10 xA1 xF1 xT1 xP1 xD1) (hc11 (.ref (q + 50)) xF2 xT2 xP2 xD2) (hc12 xTl) (hc13 xKi) (hc14 xAm) (hc15 xPl) (hc16 xCs xCo xCa) (hc17 xGo) (hc18 xOl xKn) (hc19 xKe) (hc20 xTo) (hc21 xFa) (hc22 xRe) (hc23 xVl) (hc24 xAr) c25 c26 c27 c28 c29 c30 c31 c32 c33 c34 c35 c36 c37 c38 c39 c40 c41 c42 c43 c44 c45 c46 c47 c48 c49 dyn, 0, 0)) rfl ?_
        refine pm_go (g := (117, [(4, .int ((nI k) + 1)), (6, .int (tyM dMy dPm i_m (nI k).toNatClampNeg ph)), (5, .int (f_q (xF2 + (nI k) : Int32).toNatClampNeg)), (0, .ref 11), (1, .ref (m + 50)), (2, .int ph)], [], _, 0, 0)) rfl ?_
        refine pm_go (g := (44, _, [], _, 0, 0)) rfl ?_
        refine pm_sub (lv := [(4, .int ((nI k) + 1)), (0, .ref 11), (1, .ref (m + 50)), (2, .int ph)]) ?_ ⟨le_c (List.Mem.head _) (le_c (List.Mem.tail _ (List.Mem.tail _ (List.Mem.tail _ (List.Mem.head _)))) (le_c (List.Mem.tail _ (List.Mem.tail _ (List.Mem.tail _ (List.Mem.tail _ (List.Mem.head _))))) (le_c (List.Mem.tail _ (List.Mem.tail _ (List.Mem.tail _ (List.Mem.tail _ (List.Mem.tail _ (List.Mem.head _)))))) le_n))), (show ([4, 6, 5, 0, 1, 2] : List Nat).Nodup by decide)⟩
        rw [nI_1]
        have hix : (xF2 + nI k).toNatClampNeg = xF2.toNatClampNeg + k := tN (by have e1 : (xF2 + nI k).toInt = xF2.toInt + (k : Int) := iAdd rfl hk (by omega) (by omega); have e2 := xN (x := xF2) (by omega); omega)
        refine ih (k + 1) (by omega) (by omega) (fun h => k0 (fun j q1 q2 => ?_)) (fun h => k1 (fun q => h (fun j q1 q2 => q j (by omega) q2)))
        rcases Nat.eq_or_lt_of_le q1 with e9 | e9
        · subst e9; rw [hix, hkc] at h13; exact ⟨fun q => by first | assumption | (exfalso; omega), fun q => by first | assumption | (exfalso; omega)⟩
        · exact h j e9 q2
      show pm_WP 59 (109, [(6, .int (tyM dMy dPm i_m (nI k).toNatClampNeg ph)), (5, .int (f_q (xF2 + (nI k) : Int32).toNatClampNeg)), (4, .int (nI k)), (0, .ref 11), (1, .ref (m + 50)), (2, .int ph)], [.int 0], hq g (hc1 xTc xFc xRc xVc xLr xFl) (hc2 xTn) (hc3 xPa) (hc4 xUp) (hc5 xMn xSt xAb xVa) (hc6 xAl) (hc7 xHa) (hc8 xNm) (hc9 xBy xBs) (hc10 xA1 xF1 xT1 xP1 xD1) (hc11 (.ref (q + 50)) xF2 xT2 xP2 xD2) (hc12 xTl) (hc13 xKi) (hc14 xAm) (hc15 xPl) (hc16 xCs xCo xCa) (hc17 xGo) (hc18 xOl xKn) (hc19 xKe) (hc20 xTo) (hc21 xFa) (hc22 xRe) (hc23 xVl) (hc24 xAr) c25 c26 c27 c28 c29 c30 c31 c32 c33 c34 c35 c36 c37 c38 c39 c40 c41 c42 c43 c44 c45 c46 c47 c48 c49 dyn, 0, 0) _
      refine pm_brF (h := (112, [(6, .int (tyM dMy dPm i_m (nI k).toNatClampNeg ph)), (5, .int (f_q (xF2 + (nI k) : Int32).toNatClampNeg)), (4, .int (nI k)), (0, .ref 11), (1, .ref (m + 50)), (2, .int ph)], [], hq g (hc1 xTc xFc xRc xVc xLr xFl) (hc2 xTn) (hc3 xPa) (hc4 xUp) (hc5 xMn xSt xAb xVa) (hc6 xAl) (hc7 xHa) (hc8 xNm) (hc9 xBy xBs) (hc10 xA1 xF1 xT1 xP1 xD1) (hc11 (.ref (q + 50)) xF2 xT2 xP2 xD2) (hc12 xTl) (hc13 xKi) (hc14 xAm) (hc15 xPl) (hc16 xCs xCo xCa) (hc17 xGo) (hc18 xOl xKn) (hc19 xKe) (hc20 xTo) (hc21 xFa) (hc22 xRe) (hc23 xVl) (hc24 xAr) c25 c26 c27 c28 c29 c30 c31 c32 c33 c34 c35 c36 c37 c38 c39 c40 c41 c42 c43 c44 c45 c46 c47 c48 c49 dyn, 0, 0)) rfl ?_
      refine pm_go (g := (113, _, [.int 0], _, 0, 0)) rfl ?_
      have hix : (xF2 + nI k).toNatClampNeg = xF2.toNatClampNeg + k := tN (by have e1 : (xF2 + nI k).toInt = xF2.toInt + (k : Int) := iAdd rfl hk (by omega) (by omega); have e2 := xN (x := xF2) (by omega); omega)
      refine pm_ret rfl (k1 (fun q => ?_))
      rw [hix, hkc] at h14
      have q3 := q k (Nat.le_refl k) (by omega)
      first | exact absurd (q3.1 (by omega)) (by assumption) | exact absurd (q3.2 (by omega)) (by assumption)
    have h12 := qF_ne (cx := (ph).toInt) (cy := 1) rfl (by decide) h12
    refine pm_go (g := (82, _, [.ref 11], _, 0, 0)) rfl ?_
    refine pm_go (g := (85, _, [.ref 2], _, 0, 0)) rfl ?_
    refine pm_go (g := (87, _, [.int (f_q (xF2 + (nI k) : Int32).toNatClampNeg), .ref 2], _, 0, 0)) rfl ?_
    refine pm_go (g := (89, _, [.int (tyM dMy dPm i_m (nI k).toNatClampNeg ph), .int (f_q (xF2 + (nI k) : Int32).toNatClampNeg), .ref 2], _, 0, 0)) rfl ?_
    refine pm_callD (z := 87) (as := [.ref 2, .int (f_q (xF2 + (nI k) : Int32).toNatClampNeg), .int (tyM dMy dPm i_m (nI k).toNatClampNeg ph)]) (rest := []) rfl ?_
    refine f_X9_isUnder (f_q (xF2 + (nI k) : Int32).toNatClampNeg) (tyM dMy dPm i_m (nI k).toNatClampNeg ph) (fun h16 => ?_) (fun h17 => ?_)
    ·
      show pm_WP 59 (92, [(6, .int (tyM dMy dPm i_m (nI k).toNatClampNeg ph)), (5, .int (f_q (xF2 + (nI k) : Int32).toNatClampNeg)), (4, .int (nI k)), (0, .ref 11), (1, .ref (m + 50)), (2, .int ph)], [.int 1], _, 0, 0) _
      refine pm_brT (g := (114, [(6, .int (tyM dMy dPm i_m (nI k).toNatClampNeg ph)), (5, .int (f_q (xF2 + (nI k) : Int32).toNatClampNeg)), (4, .int (nI k)), (0, .ref 11), (1, .ref (m + 50)), (2, .int ph)], [], hq g (hc1 xTc xFc xRc xVc xLr xFl) (hc2 xTn) (hc3 xPa) (hc4 xUp) (hc5 xMn xSt xAb xVa) (hc6 xAl) (hc7 xHa) (hc8 xNm) (hc9 xBy xBs) (hc10 xA1 xF1 xT1 xP1 xD1) (hc11 (.ref (q + 50)) xF2 xT2 xP2 xD2) (hc12 xTl) (hc13 xKi) (hc14 xAm) (hc15 xPl) (hc16 xCs xCo xCa) (hc17 xGo) (hc18 xOl xKn) (hc19 xKe) (hc20 xTo) (hc21 xFa) (hc22 xRe) (hc23 xVl) (hc24 xAr) c25 c26 c27 c28 c29 c30 c31 c32 c33 c34 c35 c36 c37 c38 c39 c40 c41 c42 c43 c44 c45 c46 c47 c48 c49 dyn, 0, 0)) rfl ?_
      refine pm_go (g := (117, [(4, .int ((nI k) + 1)), (6, .int (tyM dMy dPm i_m (nI k).toNatClampNeg ph)), (5, .int (f_q (xF2 + (nI k) : Int32).toNatClampNeg)), (0, .ref 11), (1, .ref (m + 50)), (2, .int ph)], [], _, 0, 0)) rfl ?_
      refine pm_go (g := (44, _, [], _, 0, 0)) rfl ?_
      refine pm_sub (lv := [(4, .int ((nI k) + 1)), (0, .ref 11), (1, .ref (m + 50)), (2, .int ph)]) ?_ ⟨le_c (List.Mem.head _) (le_c (List.Mem.tail _ (List.Mem.tail _ (List.Mem.tail _ (List.Mem.head _)))) (le_c (List.Mem.tail _ (List.Mem.tail _ (List.Mem.tail _ (List.Mem.tail _ (List.Mem.head _))))) (le_c (List.Mem.tail _ (List.Mem.tail _ (List.Mem.tail _ (List.Mem.tail _ (List.Mem.tail _ (List.Mem.head _)))))) le_n))), (show ([4, 6, 5, 0, 1, 2] : List Nat).Nodup by decide)⟩
      rw [nI_1]
      have hix : (xF2 + nI k).toNatClampNeg = xF2.toNatClampNeg + k := tN (by have e1 : (xF2 + nI k).toInt = xF2.toInt + (k : Int) := iAdd rfl hk (by omega) (by omega); have e2 := xN (x := xF2) (by omega); omega)
      refine ih (k + 1) (by omega) (by omega) (fun h => k0 (fun j q1 q2 => ?_)) (fun h => k1 (fun q => h (fun j q1 q2 => q j (by omega) q2)))
      rcases Nat.eq_or_lt_of_le q1 with e9 | e9
      · subst e9; rw [hix, hkc] at h16; exact ⟨fun q => by first | assumption | (exfalso; omega), fun q => by first | assumption | (exfalso; omega)⟩
      · exact h j e9 q2
    show pm_WP 59 (92, [(6, .int (tyM dMy dPm i_m (nI k).toNatClampNeg ph)), (5, .int (f_q (xF2 + (nI k) : Int32).toNatClampNeg)), (4, .int (nI k)), (0, .ref 11), (1, .ref (m + 50)), (2, .int ph)], [.int 0], hq g (hc1 xTc xFc xRc xVc xLr xFl) (hc2 xTn) (hc3 xPa) (hc4 xUp) (hc5 xMn xSt xAb xVa) (hc6 xAl) (hc7 xHa) (hc8 xNm) (hc9 xBy xBs) (hc10 xA1 xF1 xT1 xP1 xD1) (hc11 (.ref (q + 50)) xF2 xT2 xP2 xD2) (hc12 xTl) (hc13 xKi) (hc14 xAm) (hc15 xPl) (hc16 xCs xCo xCa) (hc17 xGo) (hc18 xOl xKn) (hc19 xKe) (hc20 xTo) (hc21 xFa) (hc22 xRe) (hc23 xVl) (hc24 xAr) c25 c26 c27 c28 c29 c30 c31 c32 c33 c34 c35 c36 c37 c38 c39 c40 c41 c42 c43 c44 c45 c46 c47 c48 c49 dyn, 0, 0) _
    refine pm_brF (h := (95, [(6, .int (tyM dMy dPm i_m (nI k).toNatClampNeg ph)), (5, .int (f_q (xF2 + (nI k) : Int32).toNatClampNeg)), (4, .int (nI k)), (0, .ref 11), (1, .ref (m + 50)), (2, .int ph)], [], hq g (hc1 xTc xFc xRc xVc xLr xFl) (hc2 xTn) (hc3 xPa) (hc4 xUp) (hc5 xMn xSt xAb xVa) (hc6 xAl) (hc7 xHa) (hc8 xNm) (hc9 xBy xBs) (hc10 xA1 xF1 xT1 xP1 xD1) (hc11 (.ref (q + 50)) xF2 xT2 xP2 xD2) (hc12 xTl) (hc13 xKi) (hc14 xAm) (hc15 xPl) (hc16 xCs xCo xCa) (hc17 xGo) (hc18 xOl xKn) (hc19 xKe) (hc20 xTo) (hc21 xFa) (hc22 xRe) (hc23 xVl) (hc24 xAr) c25 c26 c27 c28 c29 c30 c31 c32 c33 c34 c35 c36 c37 c38 c39 c40 c41 c42 c43 c44 c45 c46 c47 c48 c49 dyn, 0, 0)) rfl ?_
    refine pm_go (g := (112, _, [], _, 0, 0)) rfl ?_
    refine pm_go (g := (113, _, [.int 0], _, 0, 0)) rfl ?_
    have hix : (xF2 + nI k).toNatClampNeg = xF2.toNatClampNeg + k := tN (by have e1 : (xF2 + nI k).toInt = xF2.toInt + (k : Int) := iAdd rfl hk (by omega) (by omega); have e2 := xN (x := xF2) (by omega); omega)
    refine pm_ret rfl (k1 (fun q => ?_))
    rw [hix, hkc] at h17
    have q3 := q k (Nat.le_refl k) (by omega)
    first | exact absurd (q3.1 (by omega)) (by assumption) | exact absurd (q3.2 (by omega)) (by assumption)
set_option maxRecDepth 100000 in
set_option maxHeartbeats 4000000 in
theorem f_X6_fits_11 {g c25 c26 c27 c28 c29 c30 c31 c32 c33 c34 c35 c36 c37 c38 c39 c40 c41 c42 c43 c44 c45 c46 c47 c48 c49 : pm_C} {dyn : pm_H} {dOt dNa dRe dMa dMy dPm : Nat → Int32} {xTc : Int32} {xFc : Int32} {xRc : Int32} {xVc : Int32} {xLr : Int32} {xFl : Int32} {xTn : Int32} {xMn : Int32} {xSt : Int64} {xAb : Int64} {xVa : Int64} {xBy : Value} {xBs : Int32} {xA1 : Value} {xF1 : Int32} {xT1 : Int64} {xP1 : Int32} {xD1 : Value} {xF2 : Int32} {xT2 : Int64} {xP2 : Int32} {xD2 : Value} {xTl : Int32} {xCs : Int32} {xCo : Int32} {xCa : Value} {xOl : Int32} {xKn : Int32} {xPa : Nat → Int32} {xUp : Nat → Int32} {xAl : Nat → Option Nat} {xHa : Nat → Int64} {xNm : Nat → Int64} {xKi : Nat → Int32} {xAm : Nat → Int32} {xPl : Nat → Int32} {xGo : Nat → Int32} {xKe : Nat → Int32} {xTo : Nat → Int32} {xFa : Nat → Option Nat} {xRe : Nat → Option Nat} {xVl : Nat → Option Nat} {xAr : Nat → Int32} {Q : pm_Q} (m i_m : Nat) (ph : Int32) (q n_q : Nat) (f_q : Nat → Int32) (a_m : mbF dOt dNa dRe dMa dMy dPm dyn m i_m) (a_q : isAr dyn q n_q f_q) (p0 : 0 ≤ xF2.toInt ∧ xF2.toInt ≤ 1) (k0 : (fitX xUp dMa dMy dPm n_q f_q xF2 i_m ph) → Q (some (.int 1)) (hq g (hc1 xTc xFc xRc xVc xLr xFl) (hc2 xTn) (hc3 xPa) (hc4 xUp) (hc5 xMn xSt xAb xVa) (hc6 xAl) (hc7 xHa) (hc8 xNm) (hc9 xBy xBs) (hc10 xA1 xF1 xT1 xP1 xD1) (hc11 (.ref (q + 50)) xF2 xT2 xP2 xD2) (hc12 xTl) (hc13 xKi) (hc14 xAm) (hc15 xPl) (hc16 xCs xCo xCa) (hc17 xGo) (hc18 xOl xKn) (hc19 xKe) (hc20 xTo) (hc21 xFa) (hc22 xRe) (hc23 xVl) (hc24 xAr) c25 c26 c27 c28 c29 c30 c31 c32 c33 c34 c35 c36 c37 c38 c39 c40 c41 c42 c43 c44 c45 c46 c47 c48 c49 dyn)) (k1 : (¬ (fitX xUp dMa dMy dPm n_q f_q xF2 i_m ph)) → Q (some (.int 0)) (hq g (hc1 xTc xFc xRc xVc xLr xFl) (hc2 xTn) (hc3 xPa) (hc4 xUp) (hc5 xMn xSt xAb xVa) (hc6 xAl) (hc7 xHa) (hc8 xNm) (hc9 xBy xBs) (hc10 xA1 xF1 xT1 xP1 xD1) (hc11 (.ref (q + 50)) xF2 xT2 xP2 xD2) (hc12 xTl) (hc13 xKi) (hc14 xAm) (hc15 xPl) (hc16 xCs xCo xCa) (hc17 xGo) (hc18 xOl xKn) (hc19 xKe) (hc20 xTo) (hc21 xFa) (hc22 xRe) (hc23 xVl) (hc24 xAr) c25 c26 c27 c28 c29 c30 c31 c32 c33 c34 c35 c36 c37 c38 c39 c40 c41 c42 c43 c44 c45 c46 c47 c48 c49 dyn)) : pm_WP 59 (0, [(0, .ref 11), (1, .ref (m + 50)), (2, .int ph)], [], hq g (hc1 xTc xFc xRc xVc xLr xFl) (hc2 xTn) (hc3 xPa) (hc4 xUp) (hc5 xMn xSt xAb xVa) (hc6 xAl) (hc7 xHa) (hc8 xNm) (hc9 xBy xBs) (hc10 xA1 xF1 xT1 xP1 xD1) (hc11 (.ref (q + 50)) xF2 xT2 xP2 xD2) (hc12 xTl) (hc13 xKi) (hc14 xAm) (hc15 xPl) (hc16 xCs xCo xCa) (hc17 xGo) (hc18 xOl xKn) (hc19 xKe) (hc20 xTo) (hc21 xFa) (hc22 xRe) (hc23 xVl) (hc24 xAr) c25 c26 c27 c28 c29 c30 c31 c32 c33 c34 c35 c36 c37 c38 c39 c40 c41 c42 c43 c44 c45 c46 c47 c48 c49 dyn, 0, 0) Q := by
  obtain ⟨pw1, h2, h3, h4⟩ := id a_m
  obtain ⟨h5, h6⟩ := id a_q
  refine pm_go (g := (1, [(0, .ref 11), (1, .ref (m + 50)), (2, .int ph)], [.ref (m + 50)], hq g (hc1 xTc xFc xRc xVc xLr xFl) (hc2 xTn) (hc3 xPa) (hc4 xUp) (hc5 xMn xSt xAb xVa) (hc6 xAl) (hc7 xHa) (hc8 xNm) (hc9 xBy xBs) (hc10 xA1 xF1 xT1 xP1 xD1) (hc11 (.ref (q + 50)) xF2 xT2 xP2 xD2) (hc12 xTl) (hc13 xKi) (hc14 xAm) (hc15 xPl) (hc16 xCs xCo xCa) (hc17 xGo) (hc18 xOl xKn) (hc19 xKe) (hc20 xTo) (hc21 xFa) (hc22 xRe) (hc23 xVl) (hc24 xAr) c25 c26 c27 c28 c29 c30 c31 c32 c33 c34 c35 c36 c37 c38 c39 c40 c41 c42 c43 c44 c45 c46 c47 c48 c49 dyn, 0, 0)) rfl ?_
  refine pm_gfD rfl (hq_at.trans h2) rfl rfl ?_
  show pm_WP 59 (4, [(0, .ref 11), (1, .ref (m + 50)), (2, .int ph)], [.ref (pw1 + 50)], hq g (hc1 xTc xFc xRc xVc xLr xFl) (hc2 xTn) (hc3 xPa) (hc4 xUp) (hc5 xMn xSt xAb xVa) (hc6 xAl) (hc7 xHa) (hc8 xNm) (hc9 xBy xBs) (hc10 xA1 xF1 xT1 xP1 xD1) (hc11 (.ref (q + 50)) xF2 xT2 xP2 xD2) (hc12 xTl) (hc13 xKi) (hc14 xAm) (hc15 xPl) (hc16 xCs xCo xCa) (hc17 xGo) (hc18 xOl xKn) (hc19 xKe) (hc20 xTo) (hc21 xFa) (hc22 xRe) (hc23 xVl) (hc24 xAr) c25 c26 c27 c28 c29 c30 c31 c32 c33 c34 c35 c36 c37 c38 c39 c40 c41 c42 c43 c44 c45 c46 c47 c48 c49 dyn, 0, 0) _
  refine pm_alD rfl (hq_at.trans h3) ?_
  show pm_WP 59 (5, [(0, .ref 11), (1, .ref (m + 50)), (2, .int ph)], [.int (nI ((dMy i_m).toNatClampNeg))], hq g (hc1 xTc xFc xRc xVc xLr xFl) (hc2 xTn) (hc3 xPa) (hc4 xUp) (hc5 xMn xSt xAb xVa) (hc6 xAl) (hc7 xHa) (hc8 xNm) (hc9 xBy xBs) (hc10 xA1 xF1 xT1 xP1 xD1) (hc11 (.ref (q + 50)) xF2 xT2 xP2 xD2) (hc12 xTl) (hc13 xKi) (hc14 xAm) (hc15 xPl) (hc16 xCs xCo xCa) (hc17 xGo) (hc18 xOl xKn) (hc19 xKe) (hc20 xTo) (hc21 xFa) (hc22 xRe) (hc23 xVl) (hc24 xAr) c25 c26 c27 c28 c29 c30 c31 c32 c33 c34 c35 c36 c37 c38 c39 c40 c41 c42 c43 c44 c45 c46 c47 c48 c49 dyn, 0, 0) _
  have h7 := nI_toInt (n := (dMy i_m).toNatClampNeg) (by omega)
  refine pm_go (g := (6, [(3, .int (nI ((dMy i_m).toNatClampNeg))), (0, .ref 11), (1, .ref (m + 50)), (2, .int ph)], [], _, 0, 0)) rfl ?_
  refine pm_go (g := (7, _, [.int ph], _, 0, 0)) rfl ?_
  refine pm_go (g := (8, _, [.int 3, .int ph], _, 0, 0)) rfl ?_
  refine pm_if2 (g := (31, [(3, .int (nI ((dMy i_m).toNatClampNeg))), (0, .ref 11), (1, .ref (m + 50)), (2, .int ph)], [], hq g (hc1 xTc xFc xRc xVc xLr xFl) (hc2 xTn) (hc3 xPa) (hc4 xUp) (hc5 xMn xSt xAb xVa) (hc6 xAl) (hc7 xHa) (hc8 xNm) (hc9 xBy xBs) (hc10 xA1 xF1 xT1 xP1 xD1) (hc11 (.ref (q + 50)) xF2 xT2 xP2 xD2) (hc12 xTl) (hc13 xKi) (hc14 xAm) (hc15 xPl) (hc16 xCs xCo xCa) (hc17 xGo) (hc18 xOl xKn) (hc19 xKe) (hc20 xTo) (hc21 xFa) (hc22 xRe) (hc23 xVl) (hc24 xAr) c25 c26 c27 c28 c29 c30 c31 c32 c33 c34 c35 c36 c37 c38 c39 c40 c41 c42 c43 c44 c45 c46 c47 c48 c49 dyn, 0, 0)) (h := (11, [(3, .int (nI ((dMy i_m).toNatClampNeg))), (0, .ref 11), (1, .ref (m + 50)), (2, .int ph)], [], hq g (hc1 xTc xFc xRc xVc xLr xFl) (hc2 xTn) (hc3 xPa) (hc4 xUp) (hc5 xMn xSt xAb xVa) (hc6 xAl) (hc7 xHa) (hc8 xNm) (hc9 xBy xBs) (hc10 xA1 xF1 xT1 xP1 xD1) (hc11 (.ref (q + 50)) xF2 xT2 xP2 xD2) (hc12 xTl) (hc13 xKi) (hc14 xAm) (hc15 xPl) (hc16 xCs xCo xCa) (hc17 xGo) (hc18 xOl xKn) (hc19 xKe) (hc20 xTo) (hc21 xFa) (hc22 xRe) (hc23 xVl) (hc24 xAr) c25 c26 c27 c28 c29 c30 c31 c32 c33 c34 c35 c36 c37 c38 c39 c40 c41 c42 c43 c44 c45 c46 c47 c48 c49 dyn, 0, 0)) rfl (fun h8 => ?_) (fun h8 => ?_)
  ·
    have h8 := qT_ne (cx := (ph).toInt) (cy := 3) rfl (by decide) h8
    refine pm_go (g := (32, _, [.int (nI ((dMy i_m).toNatClampNeg))], _, 0, 0)) rfl ?_
    refine pm_go (g := (33, _, [.ref 11, .int (nI ((dMy i_m).toNatClampNeg))], _, 0, 0)) rfl ?_
    refine pm_callD (z := 57) (as := [.ref 11]) (rest := [.int (nI ((dMy i_m).toNatClampNeg))]) rfl ?_
    refine f_X6_argumentCount_11 q n_q f_q ⟨h5, by omega⟩ (by omega) (fun v9_r9 h9 => ?_)
    show pm_WP 59 (36, [(3, .int (nI ((dMy i_m).toNatClampNeg))), (0, .ref 11), (1, .ref (m + 50)), (2, .int ph)], [.int v9_r9, .int (nI ((dMy i_m).toNatClampNeg))], _, 0, 0) _
    refine pm_if2 (g := (41, [(3, .int (nI ((dMy i_m).toNatClampNeg))), (0, .ref 11), (1, .ref (m + 50)), (2, .int ph)], [], hq g (hc1 xTc xFc xRc xVc xLr xFl) (hc2 xTn) (hc3 xPa) (hc4 xUp) (hc5 xMn xSt xAb xVa) (hc6 xAl) (hc7 xHa) (hc8 xNm) (hc9 xBy xBs) (hc10 xA1 xF1 xT1 xP1 xD1) (hc11 (.ref (q + 50)) xF2 xT2 xP2 xD2) (hc12 xTl) (hc13 xKi) (hc14 xAm) (hc15 xPl) (hc16 xCs xCo xCa) (hc17 xGo) (hc18 xOl xKn) (hc19 xKe) (hc20 xTo) (hc21 xFa) (hc22 xRe) (hc23 xVl) (hc24 xAr) c25 c26 c27 c28 c29 c30 c31 c32 c33 c34 c35 c36 c37 c38 c39 c40 c41 c42 c43 c44 c45 c46 c47 c48 c49 dyn, 0, 0)) (h := (39, [(3, .int (nI ((dMy i_m).toNatClampNeg))), (0, .ref 11), (1, .ref (m + 50)), (2, .int ph)], [], hq g (hc1 xTc xFc xRc xVc xLr xFl) (hc2 xTn) (hc3 xPa) (hc4 xUp) (hc5 xMn xSt xAb xVa) (hc6 xAl) (hc7 xHa) (hc8 xNm) (hc9 xBy xBs) (hc10 xA1 xF1 xT1 xP1 xD1) (hc11 (.ref (q + 50)) xF2 xT2 xP2 xD2) (hc12 xTl) (hc13 xKi) (hc14 xAm) (hc15 xPl) (hc16 xCs xCo xCa) (hc17 xGo) (hc18 xOl xKn) (hc19 xKe) (hc20 xTo) (hc21 xFa) (hc22 xRe) (hc23 xVl) (hc24 xAr) c25 c26 c27 c28 c29 c30 c31 c32 c33 c34 c35 c36 c37 c38 c39 c40 c41 c42 c43 c44 c45 c46 c47 c48 c49 dyn, 0, 0)) rfl (fun h11 => ?_) (fun h11 => ?_)
    ·
      have h11 := qT_eq (cx := (nI ((dMy i_m).toNatClampNeg)).toInt) (cy := (v9_r9).toInt) rfl rfl h11
      refine pm_go (g := (42, _, [.int 0], _, 0, 0)) rfl ?_
      refine pm_go (g := (44, [(4, .int 0), (3, .int (nI ((dMy i_m).toNatClampNeg))), (0, .ref 11), (1, .ref (m + 50)), (2, .int ph)], [], _, 0, 0)) rfl ?_
      refine pm_sub (lv := [(4, .int 0), (0, .ref 11), (1, .ref (m + 50)), (2, .int ph)]) ?_ ⟨le_c (List.Mem.head _) (le_c (List.Mem.tail _ (List.Mem.tail _ (List.Mem.head _))) (le_c (List.Mem.tail _ (List.Mem.tail _ (List.Mem.tail _ (List.Mem.head _)))) (le_c (List.Mem.tail _ (List.Mem.tail _ (List.Mem.tail _ (List.Mem.tail _ (List.Mem.head _))))) le_n))), (show ([4, 3, 0, 1, 2] : List Nat).Nodup by decide)⟩
      exact f_X6_fits_11_l ph m i_m q n_q f_q a_m a_q p0 4 0 (by omega) (by omega) (fun h => k0 ⟨by omega, h⟩) (fun h => k1 (fun q => h q.2))
    have h11 := qF_eq (cx := (nI ((dMy i_m).toNatClampNeg)).toInt) (cy := (v9_r9).toInt) rfl rfl h11
    refine pm_go (g := (40, [(3, .int (nI ((dMy i_m).toNatClampNeg))), (0, .ref 11), (1, .ref (m + 50)), (2, .int ph)], [.int 0], _, 0, 0)) rfl ?_
    exact pm_ret rfl (k1 (fun q => by have q2 := q.1; omega))
  have h8 := qF_ne (cx := (ph).toInt) (cy := 3) rfl (by decide) h8
  refine pm_go (g := (12, _, [.ref (m + 50)], _, 0, 0)) rfl ?_
  refine pm_ivD (r := m + 50) (as := []) (rest := []) rfl rfl (hq_at.trans h2) rfl ?_
  refine f_X3_isVaried m i_m a_m (fun h12 => ?_) (fun h13 => ?_)
  ·
    show pm_WP 59 (15, [(3, .int (nI ((dMy i_m).toNatClampNeg))), (0, .ref 11), (1, .ref (m + 50)), (2, .int ph)], [.int 1], _, 0, 0) _
    refine pm_brF (h := (18, [(3, .int (nI ((dMy i_m).toNatClampNeg))), (0, .ref 11), (1, .ref (m + 50)), (2, .int ph)], [], hq g (hc1 xTc xFc xRc xVc xLr xFl) (hc2 xTn) (hc3 xPa) (hc4 xUp) (hc5 xMn xSt xAb xVa) (hc6 xAl) (hc7 xHa) (hc8 xNm) (hc9 xBy xBs) (hc10 xA1 xF1 xT1 xP1 xD1) (hc11 (.ref (q + 50)) xF2 xT2 xP2 xD2) (hc12 xTl) (hc13 xKi) (hc14 xAm) (hc15 xPl) (hc16 xCs xCo xCa) (hc17 xGo) (hc18 xOl xKn) (hc19 xKe) (hc20 xTo) (hc21 xFa) (hc22 xRe) (hc23 xVl) (hc24 xAr) c25 c26 c27 c28 c29 c30 c31 c32 c33 c34 c35 c36 c37 c38 c39 c40 c41 c42 c43 c44 c45 c46 c47 c48 c49 dyn, 0, 0)) rfl ?_
    refine pm_go (g := (19, _, [.int (nI ((dMy i_m).toNatClampNeg))], _, 0, 0)) rfl ?_
    refine pm_go (g := (20, _, [.ref 11, .int (nI ((dMy i_m).toNatClampNeg))], _, 0, 0)) rfl ?_
    refine pm_callD (z := 57) (as := [.ref 11]) (rest := [.int (nI ((dMy i_m).toNatClampNeg))]) rfl ?_
    refine f_X6_argumentCount_11 q n_q f_q ⟨h5, by omega⟩ (by omega) (fun v15_r9 h15 => ?_)
    show pm_WP 59 (23, [(3, .int (nI ((dMy i_m).toNatClampNeg))), (0, .ref 11), (1, .ref (m + 50)), (2, .int ph)], [.int v15_r9, .int (nI ((dMy i_m).toNatClampNeg))], _, 0, 0) _
    refine pm_go (g := (24, _, [.int 1, .int v15_r9, .int (nI ((dMy i_m).toNatClampNeg))], _, 0, 0)) rfl ?_
    refine pm_go (g := (25, _, [.int (v15_r9 + 1), .int (nI ((dMy i_m).toNatClampNeg))], _, 0, 0)) rfl ?_
    try have h17 : (v15_r9 + 1).toInt = (v15_r9).toInt + 1 := iAdd (x := (v15_r9).toInt) (y := 1) rfl (by decide) (by omega) (by omega)
    refine pm_if2 (g := (41, [(3, .int (nI ((dMy i_m).toNatClampNeg))), (0, .ref 11), (1, .ref (m + 50)), (2, .int ph)], [], hq g (hc1 xTc xFc xRc xVc xLr xFl) (hc2 xTn) (hc3 xPa) (hc4 xUp) (hc5 xMn xSt xAb xVa) (hc6 xAl) (hc7 xHa) (hc8 xNm) (hc9 xBy xBs) (hc10 xA1 xF1 xT1 xP1 xD1) (hc11 (.ref (q + 50)) xF2 xT2 xP2 xD2) (hc12 xTl) (hc13 xKi) (hc14 xAm) (hc15 xPl) (hc16 xCs xCo xCa) (hc17 xGo) (hc18 xOl xKn) (hc19 xKe) (hc20 xTo) (hc21 xFa) (hc22 xRe) (hc23 xVl) (hc24 xAr) c25 c26 c27 c28 c29 c30 c31 c32 c33 c34 c35 c36 c37 c38 c39 c40 c41 c42 c43 c44 c45 c46 c47 c48 c49 dyn, 0, 0)) (h := (28, [(3, .int (nI ((dMy i_m).toNatClampNeg))), (0, .ref 11), (1, .ref (m + 50)), (2, .int ph)], [], hq g (hc1 xTc xFc xRc xVc xLr xFl) (hc2 xTn) (hc3 xPa) (hc4 xUp) (hc5 xMn xSt xAb xVa) (hc6 xAl) (hc7 xHa) (hc8 xNm) (hc9 xBy xBs) (hc10 xA1 xF1 xT1 xP1 xD1) (hc11 (.ref (q + 50)) xF2 xT2 xP2 xD2) (hc12 xTl) (hc13 xKi) (hc14 xAm) (hc15 xPl) (hc16 xCs xCo xCa) (hc17 xGo) (hc18 xOl xKn) (hc19 xKe) (hc20 xTo) (hc21 xFa) (hc22 xRe) (hc23 xVl) (hc24 xAr) c25 c26 c27 c28 c29 c30 c31 c32 c33 c34 c35 c36 c37 c38 c39 c40 c41 c42 c43 c44 c45 c46 c47 c48 c49 dyn, 0, 0)) rfl (fun h18 => ?_) (fun h18 => ?_)
    ·
      have h18 := qT_le (cx := (nI ((dMy i_m).toNatClampNeg)).toInt) (cy := (v15_r9 + 1).toInt) rfl rfl h18
      refine pm_go (g := (42, _, [.int 0], _, 0, 0)) rfl ?_
      refine pm_go (g := (44, [(4, .int 0), (3, .int (nI ((dMy i_m).toNatClampNeg))), (0, .ref 11), (1, .ref (m + 50)), (2, .int ph)], [], _, 0, 0)) rfl ?_
      refine pm_sub (lv := [(4, .int 0), (0, .ref 11), (1, .ref (m + 50)), (2, .int ph)]) ?_ ⟨le_c (List.Mem.head _) (le_c (List.Mem.tail _ (List.Mem.tail _ (List.Mem.head _))) (le_c (List.Mem.tail _ (List.Mem.tail _ (List.Mem.tail _ (List.Mem.head _)))) (le_c (List.Mem.tail _ (List.Mem.tail _ (List.Mem.tail _ (List.Mem.tail _ (List.Mem.head _))))) le_n))), (show ([4, 3, 0, 1, 2] : List Nat).Nodup by decide)⟩
      exact f_X6_fits_11_l ph m i_m q n_q f_q a_m a_q p0 4 0 (by omega) (by omega) (fun h => k0 ⟨by omega, h⟩) (fun h => k1 (fun q => h q.2))
    have h18 := qF_le (cx := (nI ((dMy i_m).toNatClampNeg)).toInt) (cy := (v15_r9 + 1).toInt) rfl rfl h18
    refine pm_go (g := (39, [(3, .int (nI ((dMy i_m).toNatClampNeg))), (0, .ref 11), (1, .ref (m + 50)), (2, .int ph)], [], _, 0, 0)) rfl ?_
    refine pm_go (g := (40, _, [.int 0], _, 0, 0)) rfl ?_
    exact pm_ret rfl (k1 (fun q => by have q2 := q.1; omega))
  show pm_WP 59 (15, [(3, .int (nI ((dMy i_m).toNatClampNeg))), (0, .ref 11), (1, .ref (m + 50)), (2, .int ph)], [.int 0], hq g (hc1 xTc xFc xRc xVc xLr xFl) (hc2 xTn) (hc3 xPa) (hc4 xUp) (hc5 xMn xSt xAb xVa) (hc6 xAl) (hc7 xHa) (hc8 xNm) (hc9 xBy xBs) (hc10 xA1 xF1 xT1 xP1 xD1) (hc11 (.ref (q + 50)) xF2 xT2 xP2 xD2) (hc12 xTl) (hc13 xKi) (hc14 xAm) (hc15 xPl) (hc16 xCs xCo xCa) (hc17 xGo) (hc18 xOl xKn) (hc19 xKe) (hc20 xTo) (hc21 xFa) (hc22 xRe) (hc23 xVl) (hc24 xAr) c25 c26 c27 c28 c29 c30 c31 c32 c33 c34 c35 c36 c37 c38 c39 c40 c41 c42 c43 c44 c45 c46 c47 c48 c49 dyn, 0, 0) _
  refine pm_brT (g := (39, [(3, .int (nI ((dMy i_m).toNatClampNeg))), (0, .ref 11), (1, .ref (m + 50)), (2, .int ph)], [], hq g (hc1 xTc xFc xRc xVc xLr xFl) (hc2 xTn) (hc3 xPa) (hc4 xUp) (hc5 xMn xSt xAb xVa) (hc6 xAl) (hc7 xHa) (hc8 xNm) (hc9 xBy xBs) (hc10 xA1 xF1 xT1 xP1 xD1) (hc11 (.ref (q + 50)) xF2 xT2 xP2 xD2) (hc12 xTl) (hc13 xKi) (hc14 xAm) (hc15 xPl) (hc16 xCs xCo xCa) (hc17 xGo) (hc18 xOl xKn) (hc19 xKe) (hc20 xTo) (hc21 xFa) (hc22 xRe) (hc23 xVl) (hc24 xAr) c25 c26 c27 c28 c29 c30 c31 c32 c33 c34 c35 c36 c37 c38 c39 c40 c41 c42 c43 c44 c45 c46 c47 c48 c49 dyn, 0, 0)) rfl ?_
  refine pm_go (g := (40, _, [.int 0], _, 0, 0)) rfl ?_
  exact pm_ret rfl (k1 (fun q => by have q2 := q.1; omega))
set_option maxRecDepth 100000 in
set_option maxHeartbeats 4000000 in
theorem f_X6_gatherFit_11_l {g c25 c26 c27 c28 c29 c30 c31 c32 c33 c34 c35 c36 c37 c38 c39 c40 c41 c42 c43 c44 c45 c46 c47 c48 c49 : pm_C} {dyn : pm_H} {dOt dNa dRe dMa dMy dPm : Nat → Int32} {xTc : Int32} {xFc : Int32} {xRc : Int32} {xVc : Int32} {xLr : Int32} {xFl : Int32} {xTn : Int32} {xMn : Int32} {xSt : Int64} {xAb : Int64} {xVa : Int64} {xBy : Value} {xBs : Int32} {xA1 : Value} {xF1 : Int32} {xT1 : Int64} {xP1 : Int32} {xD1 : Value} {xF2 : Int32} {xT2 : Int64} {xP2 : Int32} {xD2 : Value} {xTl : Int32} {xCs : Int32} {xCo : Int32} {xCa : Value} {xOl : Int32} {xKn : Int32} {xPa : Nat → Int32} {xUp : Nat → Int32} {xAl : Nat → Option Nat} {xHa : Nat → Int64} {xNm : Nat → Int64} {xKi : Nat → Int32} {xAm : Nat → Int32} {xPl : Nat → Int32} {xGo : Nat → Int32} {xKe : Nat → Int32} {xTo : Nat → Int32} {xFa : Nat → Option Nat} {xRe : Nat → Option Nat} {xVl : Nat → Option Nat} {xAr : Nat → Int32} {Q : pm_Q} (s : Int64) (ph : Int32) (q n_q : Nat) (f_q : Nat → Int32) (a_q : isAr dyn q n_q f_q) (p0 : 0 ≤ xF2.toInt ∧ xF2.toInt ≤ 1) (p1 : 0 ≤ xMn.toInt ∧ xMn.toInt ≤ 40) (p2 : alF dOt dNa dRe dMa dMy dPm xMn xAl dyn) : ∀ (n k : Nat) (t0 : Int64) (y0 : Int32), (k ≤ 40) → (40 < k + n) → (∀ (t9 : Int64) (p9 : Int32), gfX (fun x => bl s x = true ∧ fitX xUp dMa dMy dPm n_q f_q xF2 x ph) xMn k t0 t9 y0 p9 ph → Q none (hq g (hc1 xTc xFc xRc xVc xLr xFl) (hc2 xTn) (hc3 xPa) (hc4 xUp) (hc5 xMn xSt xAb xVa) (hc6 xAl) (hc7 xHa) (hc8 xNm) (hc9 xBy xBs) (hc10 xA1 xF1 xT1 xP1 xD1) (hc11 (.ref (q + 50)) xF2 t9 p9 xD2) (hc12 xTl) (hc13 xKi) (hc14 xAm) (hc15 xPl) (hc16 xCs xCo xCa) (hc17 xGo) (hc18 xOl xKn) (hc19 xKe) (hc20 xTo) (hc21 xFa) (hc22 xRe) (hc23 xVl) (hc24 xAr) c25 c26 c27 c28 c29 c30 c31 c32 c33 c34 c35 c36 c37 c38 c39 c40 c41 c42 c43 c44 c45 c46 c47 c48 c49 dyn)) → pm_WP 58 (3, [(4, .int (nI k)), (0, .ref 11), (1, .long s), (3, .int ph)], [], hq g (hc1 xTc xFc xRc xVc xLr xFl) (hc2 xTn) (hc3 xPa) (hc4 xUp) (hc5 xMn xSt xAb xVa) (hc6 xAl) (hc7 xHa) (hc8 xNm) (hc9 xBy xBs) (hc10 xA1 xF1 xT1 xP1 xD1) (hc11 (.ref (q + 50)) xF2 t0 y0 xD2) (hc12 xTl) (hc13 xKi) (hc14 xAm) (hc15 xPl) (hc16 xCs xCo xCa) (hc17 xGo) (hc18 xOl xKn) (hc19 xKe) (hc20 xTo) (hc21 xFa) (hc22 xRe) (hc23 xVl) (hc24 xAr) c25 c26 c27 c28 c29 c30 c31 c32 c33 c34 c35 c36 c37 c38 c39 c40 c41 c42 c43 c44 c45 c46 c47 c48 c49 dyn, 0, 0) Q := by
  intro n
  induction n with
  | zero =>
    intro k t0 y0 g1 g2 k0
    exfalso; omega
  | succ n ih =>
    intro k t0 y0 g1 g2 k0
    have hk := nI_toInt (n := k) (by omega)
    have hkc : (nI k).toNatClampNeg = k := nI_clamp (by omega)
    obtain ⟨h1, h2⟩ := id a_q
    refine pm_go (g := (5, [(4, .int (nI k)), (0, .ref 11), (1, .long s), (3, .int ph)], [.int (nI k)], hq g (hc1 xTc xFc xRc xVc xLr xFl) (hc2 xTn) (hc3 xPa) (hc4 xUp) (hc5 xMn xSt xAb xVa) (hc6 xAl) (hc7 xHa) (hc8 xNm) (hc9 xBy xBs) (hc10 xA1 xF1 xT1 xP1 xD1) (hc11 (.ref (q + 50)) xF2 t0 y0 xD2) (hc12 xTl) (hc13 xKi) (hc14 xAm) (hc15 xPl) (hc16 xCs xCo xCa) (hc17 xGo) (hc18 xOl xKn) (hc19 xKe) (hc20 xTo) (hc21 xFa) (hc22 xRe) (hc23 xVl) (hc24 xAr) c25 c26 c27 c28 c29 c30 c31 c32 c33 c34 c35 c36 c37 c38 c39 c40 c41 c42 c43 c44 c45 c46 c47 c48 c49 dyn, 0, 0)) rfl ?_
    refine pm_go (g := (6, _, [.ref 11, .int (nI k)], _, 0, 0)) rfl ?_
    refine pm_go (g := (9, _, [.ref 5, .int (nI k)], _, 0, 0)) rfl ?_
    refine pm_callD (z := 33) (as := [.ref 5]) (rest := [.int (nI k)]) rfl ?_
    refine f_X4_size  ?_
    show pm_WP 58 (12, [(4, .int (nI k)), (0, .ref 11), (1, .long s), (3, .int ph)], [.int xMn, .int (nI k)], _, 0, 0) _
    refine pm_if2 (g := (65, [(4, .int (nI k)), (0, .ref 11), (1, .long s), (3, .int ph)], [], hq g (hc1 xTc xFc xRc xVc xLr xFl) (hc2 xTn) (hc3 xPa) (hc4 xUp) (hc5 xMn xSt xAb xVa) (hc6 xAl) (hc7 xHa) (hc8 xNm) (hc9 xBy xBs) (hc10 xA1 xF1 xT1 xP1 xD1) (hc11 (.ref (q + 50)) xF2 t0 y0 xD2) (hc12 xTl) (hc13 xKi) (hc14 xAm) (hc15 xPl) (hc16 xCs xCo xCa) (hc17 xGo) (hc18 xOl xKn) (hc19 xKe) (hc20 xTo) (hc21 xFa) (hc22 xRe) (hc23 xVl) (hc24 xAr) c25 c26 c27 c28 c29 c30 c31 c32 c33 c34 c35 c36 c37 c38 c39 c40 c41 c42 c43 c44 c45 c46 c47 c48 c49 dyn, 0, 0)) (h := (15, [(4, .int (nI k)), (0, .ref 11), (1, .long s), (3, .int ph)], [], hq g (hc1 xTc xFc xRc xVc xLr xFl) (hc2 xTn) (hc3 xPa) (hc4 xUp) (hc5 xMn xSt xAb xVa) (hc6 xAl) (hc7 xHa) (hc8 xNm) (hc9 xBy xBs) (hc10 xA1 xF1 xT1 xP1 xD1) (hc11 (.ref (q + 50)) xF2 t0 y0 xD2) (hc12 xTl) (hc13 xKi) (hc14 xAm) (hc15 xPl) (hc16 xCs xCo xCa) (hc17 xGo) (hc18 xOl xKn) (hc19 xKe) (hc20 xTo) (hc21 xFa) (hc22 xRe) (hc23 xVl) (hc24 xAr) c25 c26 c27 c28 c29 c30 c31 c32 c33 c34 c35 c36 c37 c38 c39 c40 c41 c42 c43 c44 c45 c46 c47 c48 c49 dyn, 0, 0)) rfl (fun h4 => ?_) (fun h4 => ?_)
    ·
      have h4 := qT_ge (cx := (nI k).toInt) (cy := (xMn).toInt) rfl rfl h4
      exact pm_ret rfl (k0 _ _ (gf_e (by omega)))
    have h4 := qF_ge (cx := (nI k).toInt) (cy := (xMn).toInt) rfl rfl h4
    refine pm_go (g := (16, _, [.long s], _, 0, 0)) rfl ?_
    refine pm_go (g := (18, _, [.int (nI k), .long s], _, 0, 0)) rfl ?_
    refine pm_callD (z := 50) (as := [.long s, .int (nI k)]) (rest := []) rfl ?_
    refine f_X4_isIn s (nI k) (by omega) (fun h5 => ?_) (fun h6 => ?_)
    ·
      show pm_WP 58 (21, [(4, .int (nI k)), (0, .ref 11), (1, .long s), (3, .int ph)], [.int 1], _, 0, 0) _
      rw [hkc] at h5
      refine pm_brF (h := (24, [(4, .int (nI k)), (0, .ref 11), (1, .long s), (3, .int ph)], [], hq g (hc1 xTc xFc xRc xVc xLr xFl) (hc2 xTn) (hc3 xPa) (hc4 xUp) (hc5 xMn xSt xAb xVa) (hc6 xAl) (hc7 xHa) (hc8 xNm) (hc9 xBy xBs) (hc10 xA1 xF1 xT1 xP1 xD1) (hc11 (.ref (q + 50)) xF2 t0 y0 xD2) (hc12 xTl) (hc13 xKi) (hc14 xAm) (hc15 xPl) (hc16 xCs xCo xCa) (hc17 xGo) (hc18 xOl xKn) (hc19 xKe) (hc20 xTo) (hc21 xFa) (hc22 xRe) (hc23 xVl) (hc24 xAr) c25 c26 c27 c28 c29 c30 c31 c32 c33 c34 c35 c36 c37 c38 c39 c40 c41 c42 c43 c44 c45 c46 c47 c48 c49 dyn, 0, 0)) rfl ?_
      refine pm_go (g := (25, _, [.ref 11], _, 0, 0)) rfl ?_
      refine pm_go (g := (26, _, [.ref 11, .ref 11], _, 0, 0)) rfl ?_
      refine pm_go (g := (29, _, [.ref 5, .ref 11], _, 0, 0)) rfl ?_
      refine pm_go (g := (31, _, [.int (nI k), .ref 5, .ref 11], _, 0, 0)) rfl ?_
      refine pm_callD (z := 45) (as := [.ref 5, .int (nI k)]) (rest := [.ref 11]) rfl ?_
      refine f_X4_at (nI k) (by omega) (by first | assumption | rfl) (by omega) (fun v8_j9 h8 => ?_)
      show pm_WP 58 (34, [(4, .int (nI k)), (0, .ref 11), (1, .long s), (3, .int ph)], [.ref (v8_j9 + 50), .ref 11], _, 0, 0) _
      rw [nI_c (by omega)] at h8
      obtain ⟨pw10, h11, h12, h13⟩ := id h8
      refine pm_go (g := (35, _, [.int ph, .ref (v8_j9 + 50), .ref 11], _, 0, 0)) rfl ?_
      refine pm_callD (z := 59) (as := [.ref 11, .ref (v8_j9 + 50), .int ph]) (rest := []) rfl ?_
      refine f_X6_fits_11 v8_j9 k ph q n_q f_q h8 ⟨h1, by omega⟩ (by omega) (fun h14 => ?_) (fun h15 => ?_)
      ·
        show pm_WP 58 (38, [(4, .int (nI k)), (0, .ref 11), (1, .long s), (3, .int ph)], [.int 1], _, 0, 0) _
        refine pm_brF (h := (41, [(4, .int (nI k)), (0, .ref 11), (1, .long s), (3, .int ph)], [], hq g (hc1 xTc xFc xRc xVc xLr xFl) (hc2 xTn) (hc3 xPa) (hc4 xUp) (hc5 xMn xSt xAb xVa) (hc6 xAl) (hc7 xHa) (hc8 xNm) (hc9 xBy xBs) (hc10 xA1 xF1 xT1 xP1 xD1) (hc11 (.ref (q + 50)) xF2 t0 y0 xD2) (hc12 xTl) (hc13 xKi) (hc14 xAm) (hc15 xPl) (hc16 xCs xCo xCa) (hc17 xGo) (hc18 xOl xKn) (hc19 xKe) (hc20 xTo) (hc21 xFa) (hc22 xRe) (hc23 xVl) (hc24 xAr) c25 c26 c27 c28 c29 c30 c31 c32 c33 c34 c35 c36 c37 c38 c39 c40 c41 c42 c43 c44 c45 c46 c47 c48 c49 dyn, 0, 0)) rfl ?_
        refine pm_go (g := (42, _, [.ref 11], _, 0, 0)) rfl ?_
        refine pm_go (g := (43, _, [.ref 11, .ref 11], _, 0, 0)) rfl ?_
        refine pm_go (g := (46, _, [.long t0, .ref 11], _, 0, 0)) rfl ?_
        refine pm_go (g := (47, _, [.long 1, .long t0, .ref 11], _, 0, 0)) rfl ?_
        refine pm_go (g := (49, _, [.int (nI k), .long 1, .long t0, .ref 11], _, 0, 0)) rfl ?_
        refine pm_go (g := (50, _, [.long (1 <<< ((nI k : Int32).toInt64 &&& 63)), .long t0, .ref 11], _, 0, 0)) rfl ?_
        refine pm_go (g := (51, _, [.long (t0 ||| (1 <<< ((nI k : Int32).toInt64 &&& 63))), .ref 11], _, 0, 0)) rfl ?_
        refine pm_go (g := (54, _, [], hq g (hc1 xTc xFc xRc xVc xLr xFl) (hc2 xTn) (hc3 xPa) (hc4 xUp) (hc5 xMn xSt xAb xVa) (hc6 xAl) (hc7 xHa) (hc8 xNm) (hc9 xBy xBs) (hc10 xA1 xF1 xT1 xP1 xD1) (hc11 (.ref (q + 50)) xF2 (t0 ||| (1 <<< ((nI k : Int32).toInt64 &&& 63))) y0 xD2) (hc12 xTl) (hc13 xKi) (hc14 xAm) (hc15 xPl) (hc16 xCs xCo xCa) (hc17 xGo) (hc18 xOl xKn) (hc19 xKe) (hc20 xTo) (hc21 xFa) (hc22 xRe) (hc23 xVl) (hc24 xAr) c25 c26 c27 c28 c29 c30 c31 c32 c33 c34 c35 c36 c37 c38 c39 c40 c41 c42 c43 c44 c45 c46 c47 c48 c49 dyn, 0, 0)) rfl ?_
        refine pm_go (g := (55, _, [.ref 11], _, 0, 0)) rfl ?_
        refine pm_go (g := (56, _, [.int ph, .ref 11], _, 0, 0)) rfl ?_
        refine pm_go (g := (59, _, [], hq g (hc1 xTc xFc xRc xVc xLr xFl) (hc2 xTn) (hc3 xPa) (hc4 xUp) (hc5 xMn xSt xAb xVa) (hc6 xAl) (hc7 xHa) (hc8 xNm) (hc9 xBy xBs) (hc10 xA1 xF1 xT1 xP1 xD1) (hc11 (.ref (q + 50)) xF2 (t0 ||| (1 <<< ((nI k : Int32).toInt64 &&& 63))) ph xD2) (hc12 xTl) (hc13 xKi) (hc14 xAm) (hc15 xPl) (hc16 xCs xCo xCa) (hc17 xGo) (hc18 xOl xKn) (hc19 xKe) (hc20 xTo) (hc21 xFa) (hc22 xRe) (hc23 xVl) (hc24 xAr) c25 c26 c27 c28 c29 c30 c31 c32 c33 c34 c35 c36 c37 c38 c39 c40 c41 c42 c43 c44 c45 c46 c47 c48 c49 dyn, 0, 0)) rfl ?_
        refine pm_go (g := (62, [(4, .int ((nI k) + 1)), (0, .ref 11), (1, .long s), (3, .int ph)], [], _, 0, 0)) rfl ?_
        refine pm_go (g := (3, _, [], _, 0, 0)) rfl ?_
        refine pm_sub (lv := [(4, .int ((nI k) + 1)), (0, .ref 11), (1, .long s), (3, .int ph)]) ?_ ⟨le_c (List.Mem.head _) (le_c (List.Mem.tail _ (List.Mem.head _)) (le_c (List.Mem.tail _ (List.Mem.tail _ (List.Mem.head _))) (le_c (List.Mem.tail _ (List.Mem.tail _ (List.Mem.tail _ (List.Mem.head _)))) le_n))), (show ([4, 0, 1, 3] : List Nat).Nodup by decide)⟩
        rw [nI_1]
        exact ih (k + 1) _ _ (by omega) (by omega) (fun t9 p9 q => k0 t9 p9 (gf_y (by omega) (by omega) ⟨by assumption, by assumption⟩ q))
      show pm_WP 58 (38, [(4, .int (nI k)), (0, .ref 11), (1, .long s), (3, .int ph)], [.int 0], hq g (hc1 xTc xFc xRc xVc xLr xFl) (hc2 xTn) (hc3 xPa) (hc4 xUp) (hc5 xMn xSt xAb xVa) (hc6 xAl) (hc7 xHa) (hc8 xNm) (hc9 xBy xBs) (hc10 xA1 xF1 xT1 xP1 xD1) (hc11 (.ref (q + 50)) xF2 t0 y0 xD2) (hc12 xTl) (hc13 xKi) (hc14 xAm) (hc15 xPl) (hc16 xCs xCo xCa) (hc17 xGo) (hc18 xOl xKn) (hc19 xKe) (hc20 xTo) (hc21 xFa) (hc22 xRe) (hc23 xVl) (hc24 xAr) c25 c26 c27 c28 c29 c30 c31 c32 c33 c34 c35 c36 c37 c38 c39 c40 c41 c42 c43 c44 c45 c46 c47 c48 c49 dyn, 0, 0) _
      refine pm_brT (g := (59, [(4, .int (nI k)), (0, .ref 11), (1, .long s), (3, .int ph)], [], hq g (hc1 xTc xFc xRc xVc xLr xFl) (hc2 xTn) (hc3 xPa) (hc4 xUp) (hc5 xMn xSt xAb xVa) (hc6 xAl) (hc7 xHa) (hc8 xNm) (hc9 xBy xBs) (hc10 xA1 xF1 xT1 xP1 xD1) (hc11 (.ref (q + 50)) xF2 t0 y0 xD2) (hc12 xTl) (hc13 xKi) (hc14 xAm) (hc15 xPl) (hc16 xCs xCo xCa) (hc17 xGo) (hc18 xOl xKn) (hc19 xKe) (hc20 xTo) (hc21 xFa) (hc22 xRe) (hc23 xVl) (hc24 xAr) c25 c26 c27 c28 c29 c30 c31 c32 c33 c34 c35 c36 c37 c38 c39 c40 c41 c42 c43 c44 c45 c46 c47 c48 c49 dyn, 0, 0)) rfl ?_
      refine pm_go (g := (62, [(4, .int ((nI k) + 1)), (0, .ref 11), (1, .long s), (3, .int ph)], [], _, 0, 0)) rfl ?_
      refine pm_go (g := (3, _, [], _, 0, 0)) rfl ?_
      refine pm_sub (lv := [(4, .int ((nI k) + 1)), (0, .ref 11), (1, .long s), (3, .int ph)]) ?_ ⟨le_c (List.Mem.head _) (le_c (List.Mem.tail _ (List.Mem.head _)) (le_c (List.Mem.tail _ (List.Mem.tail _ (List.Mem.head _))) (le_c (List.Mem.tail _ (List.Mem.tail _ (List.Mem.tail _ (List.Mem.head _)))) le_n))), (show ([4, 0, 1, 3] : List Nat).Nodup by decide)⟩
      rw [nI_1]
      refine ih (k + 1) _ _ (by omega) (by omega) (fun t9 p9 q => k0 t9 p9 (gf_n ?_ q))
      rintro ⟨q1, q2⟩; first | contradiction | (simp_all; done)
    show pm_WP 58 (21, [(4, .int (nI k)), (0, .ref 11), (1, .long s), (3, .int ph)], [.int 0], hq g (hc1 xTc xFc xRc xVc xLr xFl) (hc2 xTn) (hc3 xPa) (hc4 xUp) (hc5 xMn xSt xAb xVa) (hc6 xAl) (hc7 xHa) (hc8 xNm) (hc9 xBy xBs) (hc10 xA1 xF1 xT1 xP1 xD1) (hc11 (.ref (q + 50)) xF2 t0 y0 xD2) (hc12 xTl) (hc13 xKi) (hc14 xAm) (hc15 xPl) (hc16 xCs xCo xCa) (hc17 xGo) (hc18 xOl xKn) (hc19 xKe) (hc20 xTo) (hc21 xFa) (hc22 xRe) (hc23 xVl) (hc24 xAr) c25 c26 c27 c28 c29 c30 c31 c32 c33 c34 c35 c36 c37 c38 c39 c40 c41 c42 c43 c44 c45 c46 c47 c48 c49 dyn, 0, 0) _
    rw [hkc] at h6
    refine pm_brT (g := (59, [(4, .int (nI k)), (0, .ref 11), (1, .long s), (3, .int ph)], [], hq g (hc1 xTc xFc xRc xVc xLr xFl) (hc2 xTn) (hc3 xPa) (hc4 xUp) (hc5 xMn xSt xAb xVa) (hc6 xAl) (hc7 xHa) (hc8 xNm) (hc9 xBy xBs) (hc10 xA1 xF1 xT1 xP1 xD1) (hc11 (.ref (q + 50)) xF2 t0 y0 xD2) (hc12 xTl) (hc13 xKi) (hc14 xAm) (hc15 xPl) (hc16 xCs xCo xCa) (hc17 xGo) (hc18 xOl xKn) (hc19 xKe) (hc20 xTo) (hc21 xFa) (hc22 xRe) (hc23 xVl) (hc24 xAr) c25 c26 c27 c28 c29 c30 c31 c32 c33 c34 c35 c36 c37 c38 c39 c40 c41 c42 c43 c44 c45 c46 c47 c48 c49 dyn, 0, 0)) rfl ?_
    refine pm_go (g := (62, [(4, .int ((nI k) + 1)), (0, .ref 11), (1, .long s), (3, .int ph)], [], _, 0, 0)) rfl ?_
    refine pm_go (g := (3, _, [], _, 0, 0)) rfl ?_
    refine pm_sub (lv := [(4, .int ((nI k) + 1)), (0, .ref 11), (1, .long s), (3, .int ph)]) ?_ ⟨le_c (List.Mem.head _) (le_c (List.Mem.tail _ (List.Mem.head _)) (le_c (List.Mem.tail _ (List.Mem.tail _ (List.Mem.head _))) (le_c (List.Mem.tail _ (List.Mem.tail _ (List.Mem.tail _ (List.Mem.head _)))) le_n))), (show ([4, 0, 1, 3] : List Nat).Nodup by decide)⟩
    rw [nI_1]
    refine ih (k + 1) _ _ (by omega) (by omega) (fun t9 p9 q => k0 t9 p9 (gf_n ?_ q))
    rintro ⟨q1, q2⟩; first | contradiction | (simp_all; done)
set_option maxRecDepth 100000 in
set_option maxHeartbeats 4000000 in
theorem f_X6_gatherFit_11 {g c25 c26 c27 c28 c29 c30 c31 c32 c33 c34 c35 c36 c37 c38 c39 c40 c41 c42 c43 c44 c45 c46 c47 c48 c49 : pm_C} {dyn : pm_H} {dOt dNa dRe dMa dMy dPm : Nat → Int32} {xTc : Int32} {xFc : Int32} {xRc : Int32} {xVc : Int32} {xLr : Int32} {xFl : Int32} {xTn : Int32} {xMn : Int32} {xSt : Int64} {xAb : Int64} {xVa : Int64} {xBy : Value} {xBs : Int32} {xA1 : Value} {xF1 : Int32} {xT1 : Int64} {xP1 : Int32} {xD1 : Value} {xF2 : Int32} {xT2 : Int64} {xP2 : Int32} {xD2 : Value} {xTl : Int32} {xCs : Int32} {xCo : Int32} {xCa : Value} {xOl : Int32} {xKn : Int32} {xPa : Nat → Int32} {xUp : Nat → Int32} {xAl : Nat → Option Nat} {xHa : Nat → Int64} {xNm : Nat → Int64} {xKi : Nat → Int32} {xAm : Nat → Int32} {xPl : Nat → Int32} {xGo : Nat → Int32} {xKe : Nat → Int32} {xTo : Nat → Int32} {xFa : Nat → Option Nat} {xRe : Nat → Option Nat} {xVl : Nat → Option Nat} {xAr : Nat → Int32} {Q : pm_Q} (s : Int64) (ph : Int32) (q n_q : Nat) (f_q : Nat → Int32) (a_q : isAr dyn q n_q f_q) (p0 : 0 ≤ xF2.toInt ∧ xF2.toInt ≤ 1) (p1 : 0 ≤ xMn.toInt ∧ xMn.toInt ≤ 40) (p2 : alF dOt dNa dRe dMa dMy dPm xMn xAl dyn) (k0 : ∀ (t9 : Int64), ∀ (p9 : Int32), (gfX (fun x => bl s x = true ∧ fitX xUp dMa dMy dPm n_q f_q xF2 x ph) xMn 0 xT2 t9 xP2 p9 ph) → Q none (hq g (hc1 xTc xFc xRc xVc xLr xFl) (hc2 xTn) (hc3 xPa) (hc4 xUp) (hc5 xMn xSt xAb xVa) (hc6 xAl) (hc7 xHa) (hc8 xNm) (hc9 xBy xBs) (hc10 xA1 xF1 xT1 xP1 xD1) (hc11 (.ref (q + 50)) xF2 t9 p9 xD2) (hc12 xTl) (hc13 xKi) (hc14 xAm) (hc15 xPl) (hc16 xCs xCo xCa) (hc17 xGo) (hc18 xOl xKn) (hc19 xKe) (hc20 xTo) (hc21 xFa) (hc22 xRe) (hc23 xVl) (hc24 xAr) c25 c26 c27 c28 c29 c30 c31 c32 c33 c34 c35 c36 c37 c38 c39 c40 c41 c42 c43 c44 c45 c46 c47 c48 c49 dyn)) : pm_WP 58 (0, [(0, .ref 11), (1, .long s), (3, .int ph)], [], hq g (hc1 xTc xFc xRc xVc xLr xFl) (hc2 xTn) (hc3 xPa) (hc4 xUp) (hc5 xMn xSt xAb xVa) (hc6 xAl) (hc7 xHa) (hc8 xNm) (hc9 xBy xBs) (hc10 xA1 xF1 xT1 xP1 xD1) (hc11 (.ref (q + 50)) xF2 xT2 xP2 xD2) (hc12 xTl) (hc13 xKi) (hc14 xAm) (hc15 xPl) (hc16 xCs xCo xCa) (hc17 xGo) (hc18 xOl xKn) (hc19 xKe) (hc20 xTo) (hc21 xFa) (hc22 xRe) (hc23 xVl) (hc24 xAr) c25 c26 c27 c28 c29 c30 c31 c32 c33 c34 c35 c36 c37 c38 c39 c40 c41 c42 c43 c44 c45 c46 c47 c48 c49 dyn, 0, 0) Q := by
  obtain ⟨h1, h2⟩ := id a_q
  refine pm_go (g := (1, [(0, .ref 11), (1, .long s), (3, .int ph)], [.int 0], hq g (hc1 xTc xFc xRc xVc xLr xFl) (hc2 xTn) (hc3 xPa) (hc4 xUp) (hc5 xMn xSt xAb xVa) (hc6 xAl) (hc7 xHa) (hc8 xNm) (hc9 xBy xBs) (hc10 xA1 xF1 xT1 xP1 xD1) (hc11 (.ref (q + 50)) xF2 xT2 xP2 xD2) (hc12 xTl) (hc13 xKi) (hc14 xAm) (hc15 xPl) (hc16 xCs xCo xCa) (hc17 xGo) (hc18 xOl xKn) (hc19 xKe) (hc20 xTo) (hc21 xFa) (hc22 xRe) (hc23 xVl) (hc24 xAr) c25 c26 c27 c28 c29 c30 c31 c32 c33 c34 c35 c36 c37 c38 c39 c40 c41 c42 c43 c44 c45 c46 c47 c48 c49 dyn, 0, 0)) rfl ?_
  refine pm_go (g := (3, [(4, .int 0), (0, .ref 11), (1, .long s), (3, .int ph)], [], _, 0, 0)) rfl ?_
  refine pm_sub (lv := [(4, .int 0), (0, .ref 11), (1, .long s), (3, .int ph)]) ?_ ⟨le_c (List.Mem.head _) (le_c (List.Mem.tail _ (List.Mem.head _)) (le_c (List.Mem.tail _ (List.Mem.tail _ (List.Mem.head _))) (le_c (List.Mem.tail _ (List.Mem.tail _ (List.Mem.tail _ (List.Mem.head _)))) le_n))), (show ([4, 0, 1, 3] : List Nat).Nodup by decide)⟩
  exact f_X6_gatherFit_11_l (xT2 := xT2) (xP2 := xP2) s ph q n_q f_q a_q p0 p1 p2 41 0 _ _ (by omega) (by omega) k0
set_option maxRecDepth 100000 in
set_option maxHeartbeats 4000000 in
theorem f_X6_isUnderAll_11_l {g c25 c26 c27 c28 c29 c30 c31 c32 c33 c34 c35 c36 c37 c38 c39 c40 c41 c42 c43 c44 c45 c46 c47 c48 c49 : pm_C} {dyn : pm_H} {dOt dNa dRe dMa dMy dPm : Nat → Int32} {xTc : Int32} {xFc : Int32} {xRc : Int32} {xVc : Int32} {xLr : Int32} {xFl : Int32} {xTn : Int32} {xMn : Int32} {xSt : Int64} {xAb : Int64} {xVa : Int64} {xBy : Value} {xBs : Int32} {xA1 : Value} {xF1 : Int32} {xT1 : Int64} {xP1 : Int32} {xD1 : Value} {xF2 : Int32} {xT2 : Int64} {xP2 : Int32} {xD2 : Value} {xTl : Int32} {xCs : Int32} {xCo : Int32} {xCa : Value} {xOl : Int32} {xKn : Int32} {xPa : Nat → Int32} {xUp : Nat → Int32} {xAl : Nat → Option Nat} {xHa : Nat → Int64} {xNm : Nat → Int64} {xKi : Nat → Int32} {xAm : Nat → Int32} {xPl : Nat → Int32} {xGo : Nat → Int32} {xKe : Nat → Int32} {xTo : Nat → Int32} {xFa : Nat → Option Nat} {xRe : Nat → Option Nat} {xVl : Nat → Option Nat} {xAr : Nat → Int32} {Q : pm_Q} (c : Int32) (m i_m : Nat) (o i_o : Nat) (q n_q : Nat) (f_q : Nat → Int32) (a_m : mbF dOt dNa dRe dMa dMy dPm dyn m i_m) (a_o : mbF dOt dNa dRe dMa dMy dPm dyn o i_o) (a_q : isAr dyn q n_q f_q) (p0 : c.toInt ≤ 3) : ∀ (n k : Nat), (k ≤ 3) → (3 < k + n) → (uaL xUp dMy dPm c xP2 i_m i_o k → Q (some (.int 1)) (hq g (hc1 xTc xFc xRc xVc xLr xFl) (hc2 xTn) (hc3 xPa) (hc4 xUp) (hc5 xMn xSt xAb xVa) (hc6 xAl) (hc7 xHa) (hc8 xNm) (hc9 xBy xBs) (hc10 xA1 xF1 xT1 xP1 xD1) (hc11 (.ref (q + 50)) xF2 xT2 xP2 xD2) (hc12 xTl) (hc13 xKi) (hc14 xAm) (hc15 xPl) (hc16 xCs xCo xCa) (hc17 xGo) (hc18 xOl xKn) (hc19 xKe) (hc20 xTo) (hc21 xFa) (hc22 xRe) (hc23 xVl) (hc24 xAr) c25 c26 c27 c28 c29 c30 c31 c32 c33 c34 c35 c36 c37 c38 c39 c40 c41 c42 c43 c44 c45 c46 c47 c48 c49 dyn)) → (¬ uaL xUp dMy dPm c xP2 i_m i_o k → Q (some (.int 0)) (hq g (hc1 xTc xFc xRc xVc xLr xFl) (hc2 xTn) (hc3 xPa) (hc4 xUp) (hc5 xMn xSt xAb xVa) (hc6 xAl) (hc7 xHa) (hc8 xNm) (hc9 xBy xBs) (hc10 xA1 xF1 xT1 xP1 xD1) (hc11 (.ref (q + 50)) xF2 xT2 xP2 xD2) (hc12 xTl) (hc13 xKi) (hc14 xAm) (hc15 xPl) (hc16 xCs xCo xCa) (hc17 xGo) (hc18 xOl xKn) (hc19 xKe) (hc20 xTo) (hc21 xFa) (hc22 xRe) (hc23 xVl) (hc24 xAr) c25 c26 c27 c28 c29 c30 c31 c32 c33 c34 c35 c36 c37 c38 c39 c40 c41 c42 c43 c44 c45 c46 c47 c48 c49 dyn)) → pm_WP 62 (34, [(4, .int (nI k)), (3, .int c), (0, .ref 11), (1, .ref (m + 50)), (2, .ref (o + 50))], [], hq g (hc1 xTc xFc xRc xVc xLr xFl) (hc2 xTn) (hc3 xPa) (hc4 xUp) (hc5 xMn xSt xAb xVa) (hc6 xAl) (hc7 xHa) (hc8 xNm) (hc9 xBy xBs) (hc10 xA1 xF1 xT1 xP1 xD1) (hc11 (.ref (q + 50)) xF2 xT2 xP2 xD2) (hc12 xTl) (hc13 xKi) (hc14 xAm) (hc15 xPl) (hc16 xCs xCo xCa) (hc17 xGo) (hc18 xOl xKn) (hc19 xKe) (hc20 xTo) (hc21 xFa) (hc22 xRe) (hc23 xVl) (hc24 xAr) c25 c26 c27 c28 c29 c30 c31 c32 c33 c34 c35 c36 c37 c38 c39 c40 c41 c42 c43 c44 c45 c46 c47 c48 c49 dyn, 0, 0) Q := by
  intro n
  induction n with
  | zero =>
    intro k g1 g2 k0 k1
    exfalso; omega
  | succ n ih =>
    intro k g1 g2 k0 k1
    have hk := nI_toInt (n := k) (by omega)
    have hkc : (nI k).toNatClampNeg = k := nI_clamp (by omega)
    obtain ⟨pw1, h2, h3, h4⟩ := id a_m
    obtain ⟨pw5, h6, h7, h8⟩ := id a_o
    obtain ⟨h9, h10⟩ := id a_q
    refine pm_go (g := (36, [(4, .int (nI k)), (3, .int c), (0, .ref 11), (1, .ref (m + 50)), (2, .ref (o + 50))], [.int (nI k)], hq g (hc1 xTc xFc xRc xVc xLr xFl) (hc2 xTn) (hc3 xPa) (hc4 xUp) (hc5 xMn xSt xAb xVa) (hc6 xAl) (hc7 xHa) (hc8 xNm) (hc9 xBy xBs) (hc10 xA1 xF1 xT1 xP1 xD1) (hc11 (.ref (q + 50)) xF2 xT2 xP2 xD2) (hc12 xTl) (hc13 xKi) (hc14 xAm) (hc15 xPl) (hc16 xCs xCo xCa) (hc17 xGo) (hc18 xOl xKn) (hc19 xKe) (hc20 xTo) (hc21 xFa) (hc22 xRe) (hc23 xVl) (hc24 xAr) c25 c26 c27 c28 c29 c30 c31 c32 c33 c34 c35 c36 c37 c38 c39 c40 c41 c42 c43 c44 c45 c46 c47 c48 c49 dyn, 0, 0)) rfl ?_
    refine pm_go (g := (37, _, [.int c, .int (nI k)], _, 0, 0)) rfl ?_
    refine pm_if2 (g := (78, [(4, .int (nI k)), (3, .int c), (0, .ref 11), (1, .ref (m + 50)), (2, .ref (o + 50))], [], hq g (hc1 xTc xFc xRc xVc xLr xFl) (hc2 xTn) (hc3 xPa) (hc4 xUp) (hc5 xMn xSt xAb xVa) (hc6 xAl) (hc7 xHa) (hc8 xNm) (hc9 xBy xBs) (hc10 xA1 xF1 xT1 xP1 xD1) (hc11 (.ref (q + 50)) xF2 xT2 xP2 xD2) (hc12 xTl) (hc13 xKi) (hc14 xAm) (hc15 xPl) (hc16 xCs xCo xCa) (hc17 xGo) (hc18 xOl xKn) (hc19 xKe) (hc20 xTo) (hc21 xFa) (hc22 xRe) (hc23 xVl) (hc24 xAr) c25 c26 c27 c28 c29 c30 c31 c32 c33 c34 c35 c36 c37 c38 c39 c40 c41 c42 c43 c44 c45 c46 c47 c48 c49 dyn, 0, 0)) (h := (40, [(4, .int (nI k)), (3, .int c), (0, .ref 11), (1, .ref (m + 50)), (2, .ref (o + 50))], [], hq g (hc1 xTc xFc xRc xVc xLr xFl) (hc2 xTn) (hc3 xPa) (hc4 xUp) (hc5 xMn xSt xAb xVa) (hc6 xAl) (hc7 xHa) (hc8 xNm) (hc9 xBy xBs) (hc10 xA1 xF1 xT1 xP1 xD1) (hc11 (.ref (q + 50)) xF2 xT2 xP2 xD2) (hc12 xTl) (hc13 xKi) (hc14 xAm) (hc15 xPl) (hc16 xCs xCo xCa) (hc17 xGo) (hc18 xOl xKn) (hc19 xKe) (hc20 xTo) (hc21 xFa) (hc22 xRe) (hc23 xVl) (hc24 xAr) c25 c26 c27 c28 c29 c30 c31 c32 c33 c34 c35 c36 c37 c38 c39 c40 c41 c42 c43 c44 c45 c46 c47 c48 c49 dyn, 0, 0)) rfl (fun h11 => ?_) (fun h11 => ?_)
    ·
      have h11 := qT_ge (cx := (nI k).toInt) (cy := (c).toInt) rfl rfl h11
      refine pm_go (g := (79, _, [.int 1], _, 0, 0)) rfl ?_
      exact pm_ret rfl (k0 (fun j q1 q2 => by omega))
    have h11 := qF_ge (cx := (nI k).toInt) (cy := (c).toInt) rfl rfl h11
    refine pm_go (g := (41, _, [.ref 11], _, 0, 0)) rfl ?_
    refine pm_go (g := (44, _, [.ref 2], _, 0, 0)) rfl ?_
    refine pm_go (g := (45, _, [.ref (m + 50), .ref 2], _, 0, 0)) rfl ?_
    refine pm_go (g := (47, _, [.int (nI k), .ref (m + 50), .ref 2], _, 0, 0)) rfl ?_
    refine pm_go (g := (48, _, [.ref 11, .int (nI k), .ref (m + 50), .ref 2], _, 0, 0)) rfl ?_
    refine pm_go (g := (51, _, [.int xP2, .int (nI k), .ref (m + 50), .ref 2], _, 0, 0)) rfl ?_
    refine pm_ivD (r := m + 50) (as := [.int (nI k), .int xP2]) (rest := [.ref 2]) rfl rfl (hq_at.trans h2) rfl ?_
    refine f_X3_typeAt m i_m (nI k) xP2 a_m (by omega) ?_
    show pm_WP 62 (54, [(4, .int (nI k)), (3, .int c), (0, .ref 11), (1, .ref (m + 50)), (2, .ref (o + 50))], [.int (tyM dMy dPm i_m (nI k).toNatClampNeg xP2), .ref 2], _, 0, 0) _
    refine pm_go (g := (55, _, [.ref (o + 50), .int (tyM dMy dPm i_m (nI k).toNatClampNeg xP2), .ref 2], _, 0, 0)) rfl ?_
    refine pm_go (g := (57, _, [.int (nI k), .ref (o + 50), .int (tyM dMy dPm i_m (nI k).toNatClampNeg xP2), .ref 2], _, 0, 0)) rfl ?_
    refine pm_go (g := (58, _, [.ref 11, .int (nI k), .ref (o + 50), .int (tyM dMy dPm i_m (nI k).toNatClampNeg xP2), .ref 2], _, 0, 0)) rfl ?_
    refine pm_go (g := (61, _, [.int xP2, .int (nI k), .ref (o + 50), .int (tyM dMy dPm i_m (nI k).toNatClampNeg xP2), .ref 2], _, 0, 0)) rfl ?_
    refine pm_ivD (r := o + 50) (as := [.int (nI k), .int xP2]) (rest := [.int (tyM dMy dPm i_m (nI k).toNatClampNeg xP2), .ref 2]) rfl rfl (hq_at.trans h6) rfl ?_
    refine f_X3_typeAt o i_o (nI k) xP2 a_o (by omega) ?_
    show pm_WP 62 (64, [(4, .int (nI k)), (3, .int c), (0, .ref 11), (1, .ref (m + 50)), (2, .ref (o + 50))], [.int (tyM dMy dPm i_o (nI k).toNatClampNeg xP2), .int (tyM dMy dPm i_m (nI k).toNatClampNeg xP2), .ref 2], _, 0, 0) _
    refine pm_callD (z := 87) (as := [.ref 2, .int (tyM dMy dPm i_m (nI k).toNatClampNeg xP2), .int (tyM dMy dPm i_o (nI k).toNatClampNeg xP2)]) (rest := []) rfl ?_
    refine f_X9_isUnder (tyM dMy dPm i_m (nI k).toNatClampNeg xP2) (tyM dMy dPm i_o (nI k).toNatClampNeg xP2) (fun h14 => ?_) (fun h15 => ?_)
    ·
      show pm_WP 62 (67, [(4, .int (nI k)), (3, .int c), (0, .ref 11), (1, .ref (m + 50)), (2, .ref (o + 50))], [.int 1], _, 0, 0) _
      refine pm_brT (g := (72, [(4, .int (nI k)), (3, .int c), (0, .ref 11), (1, .ref (m + 50)), (2, .ref (o + 50))], [], hq g (hc1 xTc xFc xRc xVc xLr xFl) (hc2 xTn) (hc3 xPa) (hc4 xUp) (hc5 xMn xSt xAb xVa) (hc6 xAl) (hc7 xHa) (hc8 xNm) (hc9 xBy xBs) (hc10 xA1 xF1 xT1 xP1 xD1) (hc11 (.ref (q + 50)) xF2 xT2 xP2 xD2) (hc12 xTl) (hc13 xKi) (hc14 xAm) (hc15 xPl) (hc16 xCs xCo xCa) (hc17 xGo) (hc18 xOl xKn) (hc19 xKe) (hc20 xTo) (hc21 xFa) (hc22 xRe) (hc23 xVl) (hc24 xAr) c25 c26 c27 c28 c29 c30 c31 c32 c33 c34 c35 c36 c37 c38 c39 c40 c41 c42 c43 c44 c45 c46 c47 c48 c49 dyn, 0, 0)) rfl ?_
      refine pm_go (g := (75, [(4, .int ((nI k) + 1)), (3, .int c), (0, .ref 11), (1, .ref (m + 50)), (2, .ref (o + 50))], [], _, 0, 0)) rfl ?_
      refine pm_go (g := (34, _, [], _, 0, 0)) rfl ?_
      refine pm_sub (lv := [(4, .int ((nI k) + 1)), (3, .int c), (0, .ref 11), (1, .ref (m + 50)), (2, .ref (o + 50))]) ?_ ⟨le_c (List.Mem.head _) (le_c (List.Mem.tail _ (List.Mem.head _)) (le_c (List.Mem.tail _ (List.Mem.tail _ (List.Mem.head _))) (le_c (List.Mem.tail _ (List.Mem.tail _ (List.Mem.tail _ (List.Mem.head _)))) (le_c (List.Mem.tail _ (List.Mem.tail _ (List.Mem.tail _ (List.Mem.tail _ (List.Mem.head _))))) le_n)))), (show ([4, 3, 0, 1, 2] : List Nat).Nodup by decide)⟩
      rw [nI_1]
      refine ih (k + 1) (by omega) (by omega) (fun h => k0 (fun j q1 q2 => ?_)) (fun h => k1 (fun q => h (fun j q1 q2 => q j (by omega) q2)))
      rcases Nat.eq_or_lt_of_le q1 with e9 | e9
      · subst e9; rw [hkc] at h14; assumption
      · exact h j e9 q2
    show pm_WP 62 (67, [(4, .int (nI k)), (3, .int c), (0, .ref 11), (1, .ref (m + 50)), (2, .ref (o + 50))], [.int 0], hq g (hc1 xTc xFc xRc xVc xLr xFl) (hc2 xTn) (hc3 xPa) (hc4 xUp) (hc5 xMn xSt xAb xVa) (hc6 xAl) (hc7 xHa) (hc8 xNm) (hc9 xBy xBs) (hc10 xA1 xF1 xT1 xP1 xD1) (hc11 (.ref (q + 50)) xF2 xT2 xP2 xD2) (hc12 xTl) (hc13 xKi) (hc14 xAm) (hc15 xPl) (hc16 xCs xCo xCa) (hc17 xGo) (hc18 xOl xKn) (hc19 xKe) (hc20 xTo) (hc21 xFa) (hc22 xRe) (hc23 xVl) (hc24 xAr) c25 c26 c27 c28 c29 c30 c31 c32 c33 c34 c35 c36 c37 c38 c39 c40 c41 c42 c43 c44 c45 c46 c47 c48 c49 dyn, 0, 0) _
    refine pm_brF (h := (70, [(4, .int (nI k)), (3, .int c), (0, .ref 11), (1, .ref (m + 50)), (2, .ref (o + 50))], [], hq g (hc1 xTc xFc xRc xVc xLr xFl) (hc2 xTn) (hc3 xPa) (hc4 xUp) (hc5 xMn xSt xAb xVa) (hc6 xAl) (hc7 xHa) (hc8 xNm) (hc9 xBy xBs) (hc10 xA1 xF1 xT1 xP1 xD1) (hc11 (.ref (q + 50)) xF2 xT2 xP2 xD2) (hc12 xTl) (hc13 xKi) (hc14 xAm) (hc15 xPl) (hc16 xCs xCo xCa) (hc17 xGo) (hc18 xOl xKn) (hc19 xKe) (hc20 xTo) (hc21 xFa) (hc22 xRe) (hc23 xVl) (hc24 xAr) c25 c26 c27 c28 c29 c30 c31 c32 c33 c34 c35 c36 c37 c38 c39 c40 c41 c42 c43 c44 c45 c46 c47 c48 c49 dyn, 0, 0)) rfl ?_
    refine pm_go (g := (71, _, [.int 0], _, 0, 0)) rfl ?_
    refine pm_ret rfl (k1 (fun q => ?_))
    rw [hkc] at h15
    exact absurd (q k (Nat.le_refl k) (by omega)) (by assumption)
set_option maxRecDepth 100000 in
set_option maxHeartbeats 4000000 in
theorem f_X6_isUnderAll_11 {g c25 c26 c27 c28 c29 c30 c31 c32 c33 c34 c35 c36 c37 c38 c39 c40 c41 c42 c43 c44 c45 c46 c47 c48 c49 : pm_C} {dyn : pm_H} {dOt dNa dRe dMa dMy dPm : Nat → Int32} {xTc : Int32} {xFc : Int32} {xRc : Int32} {xVc : Int32} {xLr : Int32} {xFl : Int32} {xTn : Int32} {xMn : Int32} {xSt : Int64} {xAb : Int64} {xVa : Int64} {xBy : Value} {xBs : Int32} {xA1 : Value} {xF1 : Int32} {xT1 : Int64} {xP1 : Int32} {xD1 : Value} {xF2 : Int32} {xT2 : Int64} {xP2 : Int32} {xD2 : Value} {xTl : Int32} {xCs : Int32} {xCo : Int32} {xCa : Value} {xOl : Int32} {xKn : Int32} {xPa : Nat → Int32} {xUp : Nat → Int32} {xAl : Nat → Option Nat} {xHa : Nat → Int64} {xNm : Nat → Int64} {xKi : Nat → Int32} {xAm : Nat → Int32} {xPl : Nat → Int32} {xGo : Nat → Int32} {xKe : Nat → Int32} {xTo : Nat → Int32} {xFa : Nat → Option Nat} {xRe : Nat → Option Nat} {xVl : Nat → Option Nat} {xAr : Nat → Int32} {Q : pm_Q} (m i_m : Nat) (o i_o : Nat) (q n_q : Nat) (f_q : Nat → Int32) (a_m : mbF dOt dNa dRe dMa dMy dPm dyn m i_m) (a_o : mbF dOt dNa dRe dMa dMy dPm dyn o i_o) (a_q : isAr dyn q n_q f_q) (p0 : 0 ≤ xF2.toInt ∧ xF2.toInt ≤ 1) (k0 : (uaX xUp dMy dPm ((n_q : Int) - xF2.toInt) xP2 i_m i_o) → Q (some (.int 1)) (hq g (hc1 xTc xFc xRc xVc xLr xFl) (hc2 xTn) (hc3 xPa) (hc4 xUp) (hc5 xMn xSt xAb xVa) (hc6 xAl) (hc7 xHa) (hc8 xNm) (hc9 xBy xBs) (hc10 xA1 xF1 xT1 xP1 xD1) (hc11 (.ref (q + 50)) xF2 xT2 xP2 xD2) (hc12 xTl) (hc13 xKi) (hc14 xAm) (hc15 xPl) (hc16 xCs xCo xCa) (hc17 xGo) (hc18 xOl xKn) (hc19 xKe) (hc20 xTo) (hc21 xFa) (hc22 xRe) (hc23 xVl) (hc24 xAr) c25 c26 c27 c28 c29 c30 c31 c32 c33 c34 c35 c36 c37 c38 c39 c40 c41 c42 c43 c44 c45 c46 c47 c48 c49 dyn)) (k1 : (¬ (uaX xUp dMy dPm ((n_q : Int) - xF2.toInt) xP2 i_m i_o)) → Q (some (.int 0)) (hq g (hc1 xTc xFc xRc xVc xLr xFl) (hc2 xTn) (hc3 xPa) (hc4 xUp) (hc5 xMn xSt xAb xVa) (hc6 xAl) (hc7 xHa) (hc8 xNm) (hc9 xBy xBs) (hc10 xA1 xF1 xT1 xP1 xD1) (hc11 (.ref (q + 50)) xF2 xT2 xP2 xD2) (hc12 xTl) (hc13 xKi) (hc14 xAm) (hc15 xPl) (hc16 xCs xCo xCa) (hc17 xGo) (hc18 xOl xKn) (hc19 xKe) (hc20 xTo) (hc21 xFa) (hc22 xRe) (hc23 xVl) (hc24 xAr) c25 c26 c27 c28 c29 c30 c31 c32 c33 c34 c35 c36 c37 c38 c39 c40 c41 c42 c43 c44 c45 c46 c47 c48 c49 dyn)) : pm_WP 62 (0, [(0, .ref 11), (1, .ref (m + 50)), (2, .ref (o + 50))], [], hq g (hc1 xTc xFc xRc xVc xLr xFl) (hc2 xTn) (hc3 xPa) (hc4 xUp) (hc5 xMn xSt xAb xVa) (hc6 xAl) (hc7 xHa) (hc8 xNm) (hc9 xBy xBs) (hc10 xA1 xF1 xT1 xP1 xD1) (hc11 (.ref (q + 50)) xF2 xT2 xP2 xD2) (hc12 xTl) (hc13 xKi) (hc14 xAm) (hc15 xPl) (hc16 xCs xCo xCa) (hc17 xGo) (hc18 xOl xKn) (hc19 xKe) (hc20 xTo) (hc21 xFa) (hc22 xRe) (hc23 xVl) (hc24 xAr) c25 c26 c27 c28 c29 c30 c31 c32 c33 c34 c35 c36 c37 c38 c39 c40 c41 c42 c43 c44 c45 c46 c47 c48 c49 dyn, 0, 0) Q := by
  obtain ⟨pw1, h2, h3, h4⟩ := id a_m
  obtain ⟨pw5, h6, h7, h8⟩ := id a_o
  obtain ⟨h9, h10⟩ := id a_q
  refine pm_go (g := (1, [(0, .ref 11), (1, .ref (m + 50)), (2, .ref (o + 50))], [.ref 11], hq g (hc1 xTc xFc xRc xVc xLr xFl) (hc2 xTn) (hc3 xPa) (hc4 xUp) (hc5 xMn xSt xAb xVa) (hc6 xAl) (hc7 xHa) (hc8 xNm) (hc9 xBy xBs) (hc10 xA1 xF1 xT1 xP1 xD1) (hc11 (.ref (q + 50)) xF2 xT2 xP2 xD2) (hc12 xTl) (hc13 xKi) (hc14 xAm) (hc15 xPl) (hc16 xCs xCo xCa) (hc17 xGo) (hc18 xOl xKn) (hc19 xKe) (hc20 xTo) (hc21 xFa) (hc22 xRe) (hc23 xVl) (hc24 xAr) c25 c26 c27 c28 c29 c30 c31 c32 c33 c34 c35 c36 c37 c38 c39 c40 c41 c42 c43 c44 c45 c46 c47 c48 c49 dyn, 0, 0)) rfl ?_
  refine pm_callD (z := 57) (as := [.ref 11]) (rest := []) rfl ?_
  refine f_X6_argumentCount_11 q n_q f_q ⟨h9, by omega⟩ (by omega) (fun v11_r9 h11 => ?_)
  show pm_WP 62 (4, [(0, .ref 11), (1, .ref (m + 50)), (2, .ref (o + 50))], [.int v11_r9], _, 0, 0) _
  refine pm_go (g := (5, [(3, .int v11_r9), (0, .ref 11), (1, .ref (m + 50)), (2, .ref (o + 50))], [], _, 0, 0)) rfl ?_
  refine pm_go (g := (6, _, [.ref 11], _, 0, 0)) rfl ?_
  refine pm_go (g := (9, _, [.int xP2], _, 0, 0)) rfl ?_
  refine pm_go (g := (10, _, [.int 3, .int xP2], _, 0, 0)) rfl ?_
  refine pm_if2 (g := (31, [(3, .int v11_r9), (0, .ref 11), (1, .ref (m + 50)), (2, .ref (o + 50))], [], hq g (hc1 xTc xFc xRc xVc xLr xFl) (hc2 xTn) (hc3 xPa) (hc4 xUp) (hc5 xMn xSt xAb xVa) (hc6 xAl) (hc7 xHa) (hc8 xNm) (hc9 xBy xBs) (hc10 xA1 xF1 xT1 xP1 xD1) (hc11 (.ref (q + 50)) xF2 xT2 xP2 xD2) (hc12 xTl) (hc13 xKi) (hc14 xAm) (hc15 xPl) (hc16 xCs xCo xCa) (hc17 xGo) (hc18 xOl xKn) (hc19 xKe) (hc20 xTo) (hc21 xFa) (hc22 xRe) (hc23 xVl) (hc24 xAr) c25 c26 c27 c28 c29 c30 c31 c32 c33 c34 c35 c36 c37 c38 c39 c40 c41 c42 c43 c44 c45 c46 c47 c48 c49 dyn, 0, 0)) (h := (13, [(3, .int v11_r9), (0, .ref 11), (1, .ref (m + 50)), (2, .ref (o + 50))], [], hq g (hc1 xTc xFc xRc xVc xLr xFl) (hc2 xTn) (hc3 xPa) (hc4 xUp) (hc5 xMn xSt xAb xVa) (hc6 xAl) (hc7 xHa) (hc8 xNm) (hc9 xBy xBs) (hc10 xA1 xF1 xT1 xP1 xD1) (hc11 (.ref (q + 50)) xF2 xT2 xP2 xD2) (hc12 xTl) (hc13 xKi) (hc14 xAm) (hc15 xPl) (hc16 xCs xCo xCa) (hc17 xGo) (hc18 xOl xKn) (hc19 xKe) (hc20 xTo) (hc21 xFa) (hc22 xRe) (hc23 xVl) (hc24 xAr) c25 c26 c27 c28 c29 c30 c31 c32 c33 c34 c35 c36 c37 c38 c39 c40 c41 c42 c43 c44 c45 c46 c47 c48 c49 dyn, 0, 0)) rfl (fun h13 => ?_) (fun h13 => ?_)
  ·
    have h13 := qT_ne (cx := (xP2).toInt) (cy := 3) rfl (by decide) h13
    refine pm_go (g := (32, _, [.int 0], _, 0, 0)) rfl ?_
    refine pm_go (g := (34, [(4, .int 0), (3, .int v11_r9), (0, .ref 11), (1, .ref (m + 50)), (2, .ref (o + 50))], [], _, 0, 0)) rfl ?_
    refine pm_sub (lv := [(4, .int 0), (3, .int v11_r9), (0, .ref 11), (1, .ref (m + 50)), (2, .ref (o + 50))]) ?_ ⟨le_c (List.Mem.head _) (le_c (List.Mem.tail _ (List.Mem.head _)) (le_c (List.Mem.tail _ (List.Mem.tail _ (List.Mem.head _))) (le_c (List.Mem.tail _ (List.Mem.tail _ (List.Mem.tail _ (List.Mem.head _)))) (le_c (List.Mem.tail _ (List.Mem.tail _ (List.Mem.tail _ (List.Mem.tail _ (List.Mem.head _))))) le_n)))), (show ([4, 3, 0, 1, 2] : List Nat).Nodup by decide)⟩
    refine f_X6_isUnderAll_11_l (v11_r9) m i_m o i_o q n_q f_q a_m a_o a_q (by omega) 4 0 (by omega) (by omega) (fun h => k0 (fun x q => h x (Nat.zero_le x) ?_)) (fun h => k1 (fun q => h (fun x q1 q2 => q x ?_)))
    · unfold uaB at q; omega
    · unfold uaB; omega
  have h13 := qF_ne (cx := (xP2).toInt) (cy := 3) rfl (by decide) h13
  refine pm_go (g := (14, [(3, .int v11_r9), (0, .ref 11), (1, .ref (m + 50)), (2, .ref (o + 50))], [.int v11_r9], _, 0, 0)) rfl ?_
  refine pm_go (g := (15, _, [.ref (m + 50), .int v11_r9], _, 0, 0)) rfl ?_
  refine pm_gfD rfl (hq_at.trans h2) rfl rfl ?_
  show pm_WP 62 (18, [(3, .int v11_r9), (0, .ref 11), (1, .ref (m + 50)), (2, .ref (o + 50))], [.ref (pw1 + 50), .int v11_r9], hq g (hc1 xTc xFc xRc xVc xLr xFl) (hc2 xTn) (hc3 xPa) (hc4 xUp) (hc5 xMn xSt xAb xVa) (hc6 xAl) (hc7 xHa) (hc8 xNm) (hc9 xBy xBs) (hc10 xA1 xF1 xT1 xP1 xD1) (hc11 (.ref (q + 50)) xF2 xT2 xP2 xD2) (hc12 xTl) (hc13 xKi) (hc14 xAm) (hc15 xPl) (hc16 xCs xCo xCa) (hc17 xGo) (hc18 xOl xKn) (hc19 xKe) (hc20 xTo) (hc21 xFa) (hc22 xRe) (hc23 xVl) (hc24 xAr) c25 c26 c27 c28 c29 c30 c31 c32 c33 c34 c35 c36 c37 c38 c39 c40 c41 c42 c43 c44 c45 c46 c47 c48 c49 dyn, 0, 0) _
  refine pm_alD rfl (hq_at.trans h3) ?_
  show pm_WP 62 (19, [(3, .int v11_r9), (0, .ref 11), (1, .ref (m + 50)), (2, .ref (o + 50))], [.int (nI ((dMy i_m).toNatClampNeg)), .int v11_r9], hq g (hc1 xTc xFc xRc xVc xLr xFl) (hc2 xTn) (hc3 xPa) (hc4 xUp) (hc5 xMn xSt xAb xVa) (hc6 xAl) (hc7 xHa) (hc8 xNm) (hc9 xBy xBs) (hc10 xA1 xF1 xT1 xP1 xD1) (hc11 (.ref (q + 50)) xF2 xT2 xP2 xD2) (hc12 xTl) (hc13 xKi) (hc14 xAm) (hc15 xPl) (hc16 xCs xCo xCa) (hc17 xGo) (hc18 xOl xKn) (hc19 xKe) (hc20 xTo) (hc21 xFa) (hc22 xRe) (hc23 xVl) (hc24 xAr) c25 c26 c27 c28 c29 c30 c31 c32 c33 c34 c35 c36 c37 c38 c39 c40 c41 c42 c43 c44 c45 c46 c47 c48 c49 dyn, 0, 0) _
  have h14 := nI_toInt (n := (dMy i_m).toNatClampNeg) (by omega)
  refine pm_go (g := (20, _, [.ref (o + 50), .int (nI ((dMy i_m).toNatClampNeg)), .int v11_r9], _, 0, 0)) rfl ?_
  refine pm_gfD rfl (hq_at.trans h6) rfl rfl ?_
  show pm_WP 62 (23, [(3, .int v11_r9), (0, .ref 11), (1, .ref (m + 50)), (2, .ref (o + 50))], [.ref (pw5 + 50), .int (nI ((dMy i_m).toNatClampNeg)), .int v11_r9], hq g (hc1 xTc xFc xRc xVc xLr xFl) (hc2 xTn) (hc3 xPa) (hc4 xUp) (hc5 xMn xSt xAb xVa) (hc6 xAl) (hc7 xHa) (hc8 xNm) (hc9 xBy xBs) (hc10 xA1 xF1 xT1 xP1 xD1) (hc11 (.ref (q + 50)) xF2 xT2 xP2 xD2) (hc12 xTl) (hc13 xKi) (hc14 xAm) (hc15 xPl) (hc16 xCs xCo xCa) (hc17 xGo) (hc18 xOl xKn) (hc19 xKe) (hc20 xTo) (hc21 xFa) (hc22 xRe) (hc23 xVl) (hc24 xAr) c25 c26 c27 c28 c29 c30 c31 c32 c33 c34 c35 c36 c37 c38 c39 c40 c41 c42 c43 c44 c45 c46 c47 c48 c49 dyn, 0, 0) _
  refine pm_alD rfl (hq_at.trans h7) ?_
  show pm_WP 62 (24, [(3, .int v11_r9), (0, .ref 11), (1, .ref (m + 50)), (2, .ref (o + 50))], [.int (nI ((dMy i_o).toNatClampNeg)), .int (nI ((dMy i_m).toNatClampNeg)), .int v11_r9], hq g (hc1 xTc xFc xRc xVc xLr xFl) (hc2 xTn) (hc3 xPa) (hc4 xUp) (hc5 xMn xSt xAb xVa) (hc6 xAl) (hc7 xHa) (hc8 xNm) (hc9 xBy xBs) (hc10 xA1 xF1 xT1 xP1 xD1) (hc11 (.ref (q + 50)) xF2 xT2 xP2 xD2) (hc12 xTl) (hc13 xKi) (hc14 xAm) (hc15 xPl) (hc16 xCs xCo xCa) (hc17 xGo) (hc18 xOl xKn) (hc19 xKe) (hc20 xTo) (hc21 xFa) (hc22 xRe) (hc23 xVl) (hc24 xAr) c25 c26 c27 c28 c29 c30 c31 c32 c33 c34 c35 c36 c37 c38 c39 c40 c41 c42 c43 c44 c45 c46 c47 c48 c49 dyn, 0, 0) _
  have h15 := nI_toInt (n := (dMy i_o).toNatClampNeg) (by omega)
  refine pm_mxD rfl rfl (fun hM17 => ?_) (fun hM17 => ?_)
  ·
    show pm_WP 62 (27, [(3, .int v11_r9), (0, .ref 11), (1, .ref (m + 50)), (2, .ref (o + 50))], [.int (nI ((dMy i_o).toNatClampNeg)), .int v11_r9], hq g (hc1 xTc xFc xRc xVc xLr xFl) (hc2 xTn) (hc3 xPa) (hc4 xUp) (hc5 xMn xSt xAb xVa) (hc6 xAl) (hc7 xHa) (hc8 xNm) (hc9 xBy xBs) (hc10 xA1 xF1 xT1 xP1 xD1) (hc11 (.ref (q + 50)) xF2 xT2 xP2 xD2) (hc12 xTl) (hc13 xKi) (hc14 xAm) (hc15 xPl) (hc16 xCs xCo xCa) (hc17 xGo) (hc18 xOl xKn) (hc19 xKe) (hc20 xTo) (hc21 xFa) (hc22 xRe) (hc23 xVl) (hc24 xAr) c25 c26 c27 c28 c29 c30 c31 c32 c33 c34 c35 c36 c37 c38 c39 c40 c41 c42 c43 c44 c45 c46 c47 c48 c49 dyn, 0, 0) _
    refine pm_mxD rfl rfl (fun hM18 => ?_) (fun hM18 => ?_)
    ·
      show pm_WP 62 (30, [(3, .int v11_r9), (0, .ref 11), (1, .ref (m + 50)), (2, .ref (o + 50))], [.int (nI ((dMy i_o).toNatClampNeg))], hq g (hc1 xTc xFc xRc xVc xLr xFl) (hc2 xTn) (hc3 xPa) (hc4 xUp) (hc5 xMn xSt xAb xVa) (hc6 xAl) (hc7 xHa) (hc8 xNm) (hc9 xBy xBs) (hc10 xA1 xF1 xT1 xP1 xD1) (hc11 (.ref (q + 50)) xF2 xT2 xP2 xD2) (hc12 xTl) (hc13 xKi) (hc14 xAm) (hc15 xPl) (hc16 xCs xCo xCa) (hc17 xGo) (hc18 xOl xKn) (hc19 xKe) (hc20 xTo) (hc21 xFa) (hc22 xRe) (hc23 xVl) (hc24 xAr) c25 c26 c27 c28 c29 c30 c31 c32 c33 c34 c35 c36 c37 c38 c39 c40 c41 c42 c43 c44 c45 c46 c47 c48 c49 dyn, 0, 0) _
      refine pm_go (g := (31, [(3, .int (nI ((dMy i_o).toNatClampNeg))), (0, .ref 11), (1, .ref (m + 50)), (2, .ref (o + 50))], [], _, 0, 0)) rfl ?_
      refine pm_go (g := (32, _, [.int 0], _, 0, 0)) rfl ?_
      refine pm_go (g := (34, [(4, .int 0), (3, .int (nI ((dMy i_o).toNatClampNeg))), (0, .ref 11), (1, .ref (m + 50)), (2, .ref (o + 50))], [], _, 0, 0)) rfl ?_
      refine pm_sub (lv := [(4, .int 0), (3, .int (nI ((dMy i_o).toNatClampNeg))), (0, .ref 11), (1, .ref (m + 50)), (2, .ref (o + 50))]) ?_ ⟨le_c (List.Mem.head _) (le_c (List.Mem.tail _ (List.Mem.head _)) (le_c (List.Mem.tail _ (List.Mem.tail _ (List.Mem.head _))) (le_c (List.Mem.tail _ (List.Mem.tail _ (List.Mem.tail _ (List.Mem.head _)))) (le_c (List.Mem.tail _ (List.Mem.tail _ (List.Mem.tail _ (List.Mem.tail _ (List.Mem.head _))))) le_n)))), (show ([4, 3, 0, 1, 2] : List Nat).Nodup by decide)⟩
      refine f_X6_isUnderAll_11_l (nI ((dMy i_o).toNatClampNeg)) m i_m o i_o q n_q f_q a_m a_o a_q (by omega) 4 0 (by omega) (by omega) (fun h => k0 (fun x q => h x (Nat.zero_le x) ?_)) (fun h => k1 (fun q => h (fun x q1 q2 => q x ?_)))
      · unfold uaB at q; omega
      · unfold uaB; omega
    show pm_WP 62 (30, [(3, .int v11_r9), (0, .ref 11), (1, .ref (m + 50)), (2, .ref (o + 50))], [.int v11_r9], _, 0, 0) _
    refine pm_go (g := (31, _, [], _, 0, 0)) rfl ?_
    refine pm_go (g := (32, _, [.int 0], _, 0, 0)) rfl ?_
    refine pm_go (g := (34, [(4, .int 0), (3, .int v11_r9), (0, .ref 11), (1, .ref (m + 50)), (2, .ref (o + 50))], [], _, 0, 0)) rfl ?_
    refine pm_sub (lv := [(4, .int 0), (3, .int v11_r9), (0, .ref 11), (1, .ref (m + 50)), (2, .ref (o + 50))]) ?_ ⟨le_c (List.Mem.head _) (le_c (List.Mem.tail _ (List.Mem.head _)) (le_c (List.Mem.tail _ (List.Mem.tail _ (List.Mem.head _))) (le_c (List.Mem.tail _ (List.Mem.tail _ (List.Mem.tail _ (List.Mem.head _)))) (le_c (List.Mem.tail _ (List.Mem.tail _ (List.Mem.tail _ (List.Mem.tail _ (List.Mem.head _))))) le_n)))), (show ([4, 3, 0, 1, 2] : List Nat).Nodup by decide)⟩
    refine f_X6_isUnderAll_11_l (v11_r9) m i_m o i_o q n_q f_q a_m a_o a_q (by omega) 4 0 (by omega) (by omega) (fun h => k0 (fun x q => h x (Nat.zero_le x) ?_)) (fun h => k1 (fun q => h (fun x q1 q2 => q x ?_)))
    · unfold uaB at q; omega
    · unfold uaB; omega
  show pm_WP 62 (27, [(3, .int v11_r9), (0, .ref 11), (1, .ref (m + 50)), (2, .ref (o + 50))], [.int (nI ((dMy i_m).toNatClampNeg)), .int v11_r9], _, 0, 0) _
  refine pm_mxD rfl rfl (fun hM25 => ?_) (fun hM25 => ?_)
  ·
    show pm_WP 62 (30, [(3, .int v11_r9), (0, .ref 11), (1, .ref (m + 50)), (2, .ref (o + 50))], [.int (nI ((dMy i_m).toNatClampNeg))], hq g (hc1 xTc xFc xRc xVc xLr xFl) (hc2 xTn) (hc3 xPa) (hc4 xUp) (hc5 xMn xSt xAb xVa) (hc6 xAl) (hc7 xHa) (hc8 xNm) (hc9 xBy xBs) (hc10 xA1 xF1 xT1 xP1 xD1) (hc11 (.ref (q + 50)) xF2 xT2 xP2 xD2) (hc12 xTl) (hc13 xKi) (hc14 xAm) (hc15 xPl) (hc16 xCs xCo xCa) (hc17 xGo) (hc18 xOl xKn) (hc19 xKe) (hc20 xTo) (hc21 xFa) (hc22 xRe) (hc23 xVl) (hc24 xAr) c25 c26 c27 c28 c29 c30 c31 c32 c33 c34 c35 c36 c37 c38 c39 c40 c41 c42 c43 c44 c45 c46 c47 c48 c49 dyn, 0, 0) _
    refine pm_go (g := (31, [(3, .int (nI ((dMy i_m).toNatClampNeg))), (0, .ref 11), (1, .ref (m + 50)), (2, .ref (o + 50))], [], _, 0, 0)) rfl ?_
    refine pm_go (g := (32, _, [.int 0], _, 0, 0)) rfl ?_
    refine pm_go (g := (34, [(4, .int 0), (3, .int (nI ((dMy i_m).toNatClampNeg))), (0, .ref 11), (1, .ref (m + 50)), (2, .ref (o + 50))], [], _, 0, 0)) rfl ?_
    refine pm_sub (lv := [(4, .int 0), (3, .int (nI ((dMy i_m).toNatClampNeg))), (0, .ref 11), (1, .ref (m + 50)), (2, .ref (o + 50))]) ?_ ⟨le_c (List.Mem.head _) (le_c (List.Mem.tail _ (List.Mem.head _)) (le_c (List.Mem.tail _ (List.Mem.tail _ (List.Mem.head _))) (le_c (List.Mem.tail _ (List.Mem.tail _ (List.Mem.tail _ (List.Mem.head _)))) (le_c (List.Mem.tail _ (List.Mem.tail _ (List.Mem.tail _ (List.Mem.tail _ (List.Mem.head _))))) le_n)))), (show ([4, 3, 0, 1, 2] : List Nat).Nodup by decide)⟩
    refine f_X6_isUnderAll_11_l (nI ((dMy i_m).toNatClampNeg)) m i_m o i_o q n_q f_q a_m a_o a_q (by omega) 4 0 (by omega) (by omega) (fun h => k0 (fun x q => h x (Nat.zero_le x) ?_)) (fun h => k1 (fun q => h (fun x q1 q2 => q x ?_)))
    · unfold uaB at q; omega
    · unfold uaB; omega
  show pm_WP 62 (30, [(3, .int v11_r9), (0, .ref 11), (1, .ref (m + 50)), (2, .ref (o + 50))], [.int v11_r9], _, 0, 0) _
  refine pm_go (g := (31, _, [], _, 0, 0)) rfl ?_
  refine pm_go (g := (32, _, [.int 0], _, 0, 0)) rfl ?_
  refine pm_go (g := (34, [(4, .int 0), (3, .int v11_r9), (0, .ref 11), (1, .ref (m + 50)), (2, .ref (o + 50))], [], _, 0, 0)) rfl ?_
  refine pm_sub (lv := [(4, .int 0), (3, .int v11_r9), (0, .ref 11), (1, .ref (m + 50)), (2, .ref (o + 50))]) ?_ ⟨le_c (List.Mem.head _) (le_c (List.Mem.tail _ (List.Mem.head _)) (le_c (List.Mem.tail _ (List.Mem.tail _ (List.Mem.head _))) (le_c (List.Mem.tail _ (List.Mem.tail _ (List.Mem.tail _ (List.Mem.head _)))) (le_c (List.Mem.tail _ (List.Mem.tail _ (List.Mem.tail _ (List.Mem.tail _ (List.Mem.head _))))) le_n)))), (show ([4, 3, 0, 1, 2] : List Nat).Nodup by decide)⟩
  refine f_X6_isUnderAll_11_l (v11_r9) m i_m o i_o q n_q f_q a_m a_o a_q (by omega) 4 0 (by omega) (by omega) (fun h => k0 (fun x q => h x (Nat.zero_le x) ?_)) (fun h => k1 (fun q => h (fun x q1 q2 => q x ?_)))
  · unfold uaB at q; omega
  · unfold uaB; omega
set_option maxRecDepth 100000 in
set_option maxHeartbeats 4000000 in
theorem f_X6_isSpecial_11_l {g c25 c26 c27 c28 c29 c30 c31 c32 c33 c34 c35 c36 c37 c38 c39 c40 c41 c42 c43 c44 c45 c46 c47 c48 c49 : pm_C} {dyn : pm_H} {dOt dNa dRe dMa dMy dPm : Nat → Int32} {xTc : Int32} {xFc : Int32} {xRc : Int32} {xVc : Int32} {xLr : Int32} {xFl : Int32} {xTn : Int32} {xMn : Int32} {xSt : Int64} {xAb : Int64} {xVa : Int64} {xBy : Value} {xBs : Int32} {xA1 : Value} {xF1 : Int32} {xT1 : Int64} {xP1 : Int32} {xD1 : Value} {xF2 : Int32} {xT2 : Int64} {xP2 : Int32} {xD2 : Value} {xTl : Int32} {xCs : Int32} {xCo : Int32} {xCa : Value} {xOl : Int32} {xKn : Int32} {xPa : Nat → Int32} {xUp : Nat → Int32} {xAl : Nat → Option Nat} {xHa : Nat → Int64} {xNm : Nat → Int64} {xKi : Nat → Int32} {xAm : Nat → Int32} {xPl : Nat → Int32} {xGo : Nat → Int32} {xKe : Nat → Int32} {xTo : Nat → Int32} {xFa : Nat → Option Nat} {xRe : Nat → Option Nat} {xVl : Nat → Option Nat} {xAr : Nat → Int32} {Q : pm_Q} (m i_m : Nat) (q n_q : Nat) (f_q : Nat → Int32) (a_m : mbF dOt dNa dRe dMa dMy dPm dyn m i_m) (a_q : isAr dyn q n_q f_q) (p0 : 0 ≤ xF2.toInt ∧ xF2.toInt ≤ 1) (p1 : 0 ≤ xMn.toInt ∧ xMn.toInt ≤ 40) (p2 : alF dOt dNa dRe dMa dMy dPm xMn xAl dyn) : ∀ (n k : Nat), (k ≤ 40) → (40 < k + n) → (spX xUp dMy dPm xT2 xMn ((n_q : Int) - xF2.toInt) xP2 i_m k → Q (some (.int 1)) (hq g (hc1 xTc xFc xRc xVc xLr xFl) (hc2 xTn) (hc3 xPa) (hc4 xUp) (hc5 xMn xSt xAb xVa) (hc6 xAl) (hc7 xHa) (hc8 xNm) (hc9 xBy xBs) (hc10 xA1 xF1 xT1 xP1 xD1) (hc11 (.ref (q + 50)) xF2 xT2 xP2 xD2) (hc12 xTl) (hc13 xKi) (hc14 xAm) (hc15 xPl) (hc16 xCs xCo xCa) (hc17 xGo) (hc18 xOl xKn) (hc19 xKe) (hc20 xTo) (hc21 xFa) (hc22 xRe) (hc23 xVl) (hc24 xAr) c25 c26 c27 c28 c29 c30 c31 c32 c33 c34 c35 c36 c37 c38 c39 c40 c41 c42 c43 c44 c45 c46 c47 c48 c49 dyn)) → (¬ spX xUp dMy dPm xT2 xMn ((n_q : Int) - xF2.toInt) xP2 i_m k → Q (some (.int 0)) (hq g (hc1 xTc xFc xRc xVc xLr xFl) (hc2 xTn) (hc3 xPa) (hc4 xUp) (hc5 xMn xSt xAb xVa) (hc6 xAl) (hc7 xHa) (hc8 xNm) (hc9 xBy xBs) (hc10 xA1 xF1 xT1 xP1 xD1) (hc11 (.ref (q + 50)) xF2 xT2 xP2 xD2) (hc12 xTl) (hc13 xKi) (hc14 xAm) (hc15 xPl) (hc16 xCs xCo xCa) (hc17 xGo) (hc18 xOl xKn) (hc19 xKe) (hc20 xTo) (hc21 xFa) (hc22 xRe) (hc23 xVl) (hc24 xAr) c25 c26 c27 c28 c29 c30 c31 c32 c33 c34 c35 c36 c37 c38 c39 c40 c41 c42 c43 c44 c45 c46 c47 c48 c49 dyn)) → pm_WP 61 (2, [(2, .int (nI k)), (0, .ref 11), (1, .ref (m + 50))], [], hq g (hc1 xTc xFc xRc xVc xLr xFl) (hc2 xTn) (hc3 xPa) (hc4 xUp) (hc5 xMn xSt xAb xVa) (hc6 xAl) (hc7 xHa) (hc8 xNm) (hc9 xBy xBs) (hc10 xA1 xF1 xT1 xP1 xD1) (hc11 (.ref (q + 50)) xF2 xT2 xP2 xD2) (hc12 xTl) (hc13 xKi) (hc14 xAm) (hc15 xPl) (hc16 xCs xCo xCa) (hc17 xGo) (hc18 xOl xKn) (hc19 xKe) (hc20 xTo) (hc21 xFa) (hc22 xRe) (hc23 xVl) (hc24 xAr) c25 c26 c27 c28 c29 c30 c31 c32 c33 c34 c35 c36 c37 c38 c39 c40 c41 c42 c43 c44 c45 c46 c47 c48 c49 dyn, 0, 0) Q := by
  intro n
  induction n with
  | zero =>
    intro k g1 g2 k0 k1
    exfalso; omega
  | succ n ih =>
    intro k g1 g2 k0 k1
    have hk := nI_toInt (n := k) (by omega)
    have hkc : (nI k).toNatClampNeg = k := nI_clamp (by omega)
    obtain ⟨pw1, h2, h3, h4⟩ := id a_m
    obtain ⟨h5, h6⟩ := id a_q
    refine pm_go (g := (3, [(2, .int (nI k)), (0, .ref 11), (1, .ref (m + 50))], [.int (nI k)], hq g (hc1 xTc xFc xRc xVc xLr xFl) (hc2 xTn) (hc3 xPa) (hc4 xUp) (hc5 xMn xSt xAb xVa) (hc6 xAl) (hc7 xHa) (hc8 xNm) (hc9 xBy xBs) (hc10 xA1 xF1 xT1 xP1 xD1) (hc11 (.ref (q + 50)) xF2 xT2 xP2 xD2) (hc12 xTl) (hc13 xKi) (hc14 xAm) (hc15 xPl) (hc16 xCs xCo xCa) (hc17 xGo) (hc18 xOl xKn) (hc19 xKe) (hc20 xTo) (hc21 xFa) (hc22 xRe) (hc23 xVl) (hc24 xAr) c25 c26 c27 c28 c29 c30 c31 c32 c33 c34 c35 c36 c37 c38 c39 c40 c41 c42 c43 c44 c45 c46 c47 c48 c49 dyn, 0, 0)) rfl ?_
    refine pm_go (g := (4, _, [.ref 11, .int (nI k)], _, 0, 0)) rfl ?_
    refine pm_go (g := (7, _, [.ref 5, .int (nI k)], _, 0, 0)) rfl ?_
    refine pm_callD (z := 33) (as := [.ref 5]) (rest := [.int (nI k)]) rfl ?_
    refine f_X4_size  ?_
    show pm_WP 61 (10, [(2, .int (nI k)), (0, .ref 11), (1, .ref (m + 50))], [.int xMn, .int (nI k)], _, 0, 0) _
    refine pm_if2 (g := (48, [(2, .int (nI k)), (0, .ref 11), (1, .ref (m + 50))], [], hq g (hc1 xTc xFc xRc xVc xLr xFl) (hc2 xTn) (hc3 xPa) (hc4 xUp) (hc5 xMn xSt xAb xVa) (hc6 xAl) (hc7 xHa) (hc8 xNm) (hc9 xBy xBs) (hc10 xA1 xF1 xT1 xP1 xD1) (hc11 (.ref (q + 50)) xF2 xT2 xP2 xD2) (hc12 xTl) (hc13 xKi) (hc14 xAm) (hc15 xPl) (hc16 xCs xCo xCa) (hc17 xGo) (hc18 xOl xKn) (hc19 xKe) (hc20 xTo) (hc21 xFa) (hc22 xRe) (hc23 xVl) (hc24 xAr) c25 c26 c27 c28 c29 c30 c31 c32 c33 c34 c35 c36 c37 c38 c39 c40 c41 c42 c43 c44 c45 c46 c47 c48 c49 dyn, 0, 0)) (h := (13, [(2, .int (nI k)), (0, .ref 11), (1, .ref (m + 50))], [], hq g (hc1 xTc xFc xRc xVc xLr xFl) (hc2 xTn) (hc3 xPa) (hc4 xUp) (hc5 xMn xSt xAb xVa) (hc6 xAl) (hc7 xHa) (hc8 xNm) (hc9 xBy xBs) (hc10 xA1 xF1 xT1 xP1 xD1) (hc11 (.ref (q + 50)) xF2 xT2 xP2 xD2) (hc12 xTl) (hc13 xKi) (hc14 xAm) (hc15 xPl) (hc16 xCs xCo xCa) (hc17 xGo) (hc18 xOl xKn) (hc19 xKe) (hc20 xTo) (hc21 xFa) (hc22 xRe) (hc23 xVl) (hc24 xAr) c25 c26 c27 c28 c29 c30 c31 c32 c33 c34 c35 c36 c37 c38 c39 c40 c41 c42 c43 c44 c45 c46 c47 c48 c49 dyn, 0, 0)) rfl (fun h8 => ?_) (fun h8 => ?_)
    ·
      have h8 := qT_ge (cx := (nI k).toInt) (cy := (xMn).toInt) rfl rfl h8
      refine pm_go (g := (49, _, [.int 1], _, 0, 0)) rfl ?_
      exact pm_ret rfl (k0 (fun j q1 q2 => by omega))
    have h8 := qF_ge (cx := (nI k).toInt) (cy := (xMn).toInt) rfl rfl h8
    refine pm_go (g := (14, _, [.ref 11], _, 0, 0)) rfl ?_
    refine pm_go (g := (17, _, [.long xT2], _, 0, 0)) rfl ?_
    refine pm_go (g := (18, _, [.int (nI k), .long xT2], _, 0, 0)) rfl ?_
    refine pm_callD (z := 50) (as := [.long xT2, .int (nI k)]) (rest := []) rfl ?_
    refine f_X4_isIn xT2 (nI k) (by omega) (fun h9 => ?_) (fun h10 => ?_)
    ·
      show pm_WP 61 (21, [(2, .int (nI k)), (0, .ref 11), (1, .ref (m + 50))], [.int 1], _, 0, 0) _
      rw [hkc] at h9
      refine pm_brF (h := (24, [(2, .int (nI k)), (0, .ref 11), (1, .ref (m + 50))], [], hq g (hc1 xTc xFc xRc xVc xLr xFl) (hc2 xTn) (hc3 xPa) (hc4 xUp) (hc5 xMn xSt xAb xVa) (hc6 xAl) (hc7 xHa) (hc8 xNm) (hc9 xBy xBs) (hc10 xA1 xF1 xT1 xP1 xD1) (hc11 (.ref (q + 50)) xF2 xT2 xP2 xD2) (hc12 xTl) (hc13 xKi) (hc14 xAm) (hc15 xPl) (hc16 xCs xCo xCa) (hc17 xGo) (hc18 xOl xKn) (hc19 xKe) (hc20 xTo) (hc21 xFa) (hc22 xRe) (hc23 xVl) (hc24 xAr) c25 c26 c27 c28 c29 c30 c31 c32 c33 c34 c35 c36 c37 c38 c39 c40 c41 c42 c43 c44 c45 c46 c47 c48 c49 dyn, 0, 0)) rfl ?_
      refine pm_go (g := (25, _, [.ref 11], _, 0, 0)) rfl ?_
      refine pm_go (g := (26, _, [.ref (m + 50), .ref 11], _, 0, 0)) rfl ?_
      refine pm_go (g := (27, _, [.ref 11, .ref (m + 50), .ref 11], _, 0, 0)) rfl ?_
      refine pm_go (g := (30, _, [.ref 5, .ref (m + 50), .ref 11], _, 0, 0)) rfl ?_
      refine pm_go (g := (31, _, [.int (nI k), .ref 5, .ref (m + 50), .ref 11], _, 0, 0)) rfl ?_
      refine pm_callD (z := 45) (as := [.ref 5, .int (nI k)]) (rest := [.ref (m + 50), .ref 11]) rfl ?_
      refine f_X4_at (nI k) (by omega) (by first | assumption | rfl) (by omega) (fun v12_j9 h12 => ?_)
      show pm_WP 61 (34, [(2, .int (nI k)), (0, .ref 11), (1, .ref (m + 50))], [.ref (v12_j9 + 50), .ref (m + 50), .ref 11], _, 0, 0) _
      rw [nI_c (by omega)] at h12
      obtain ⟨pw14, h15, h16, h17⟩ := id h12
      refine pm_callD (z := 62) (as := [.ref 11, .ref (m + 50), .ref (v12_j9 + 50)]) (rest := []) rfl ?_
      refine f_X6_isUnderAll_11 m i_m v12_j9 k q n_q f_q a_m h12 ⟨h5, by omega⟩ (by omega) (fun h18 => ?_) (fun h19 => ?_)
      ·
        show pm_WP 61 (37, [(2, .int (nI k)), (0, .ref 11), (1, .ref (m + 50))], [.int 1], _, 0, 0) _
        refine pm_brT (g := (42, [(2, .int (nI k)), (0, .ref 11), (1, .ref (m + 50))], [], hq g (hc1 xTc xFc xRc xVc xLr xFl) (hc2 xTn) (hc3 xPa) (hc4 xUp) (hc5 xMn xSt xAb xVa) (hc6 xAl) (hc7 xHa) (hc8 xNm) (hc9 xBy xBs) (hc10 xA1 xF1 xT1 xP1 xD1) (hc11 (.ref (q + 50)) xF2 xT2 xP2 xD2) (hc12 xTl) (hc13 xKi) (hc14 xAm) (hc15 xPl) (hc16 xCs xCo xCa) (hc17 xGo) (hc18 xOl xKn) (hc19 xKe) (hc20 xTo) (hc21 xFa) (hc22 xRe) (hc23 xVl) (hc24 xAr) c25 c26 c27 c28 c29 c30 c31 c32 c33 c34 c35 c36 c37 c38 c39 c40 c41 c42 c43 c44 c45 c46 c47 c48 c49 dyn, 0, 0)) rfl ?_
        refine pm_go (g := (45, [(2, .int ((nI k) + 1)), (0, .ref 11), (1, .ref (m + 50))], [], _, 0, 0)) rfl ?_
        refine pm_go (g := (2, _, [], _, 0, 0)) rfl ?_
        refine pm_sub (lv := [(2, .int ((nI k) + 1)), (0, .ref 11), (1, .ref (m + 50))]) ?_ ⟨le_c (List.Mem.head _) (le_c (List.Mem.tail _ (List.Mem.head _)) (le_c (List.Mem.tail _ (List.Mem.tail _ (List.Mem.head _))) le_n)), (show ([2, 0, 1] : List Nat).Nodup by decide)⟩
        rw [nI_1]
        refine ih (k + 1) (by omega) (by omega) (fun h => k0 (fun j q1 q2 q3 => ?_)) (fun h => k1 (fun q => h (fun j q1 q2 => q j (by omega) q2)))
        rcases Nat.eq_or_lt_of_le q1 with e9 | e9
        · subst e9; first | assumption | (simp_all; done)
        · exact h j e9 q2 q3
      show pm_WP 61 (37, [(2, .int (nI k)), (0, .ref 11), (1, .ref (m + 50))], [.int 0], hq g (hc1 xTc xFc xRc xVc xLr xFl) (hc2 xTn) (hc3 xPa) (hc4 xUp) (hc5 xMn xSt xAb xVa) (hc6 xAl) (hc7 xHa) (hc8 xNm) (hc9 xBy xBs) (hc10 xA1 xF1 xT1 xP1 xD1) (hc11 (.ref (q + 50)) xF2 xT2 xP2 xD2) (hc12 xTl) (hc13 xKi) (hc14 xAm) (hc15 xPl) (hc16 xCs xCo xCa) (hc17 xGo) (hc18 xOl xKn) (hc19 xKe) (hc20 xTo) (hc21 xFa) (hc22 xRe) (hc23 xVl) (hc24 xAr) c25 c26 c27 c28 c29 c30 c31 c32 c33 c34 c35 c36 c37 c38 c39 c40 c41 c42 c43 c44 c45 c46 c47 c48 c49 dyn, 0, 0) _
      refine pm_brF (h := (40, [(2, .int (nI k)), (0, .ref 11), (1, .ref (m + 50))], [], hq g (hc1 xTc xFc xRc xVc xLr xFl) (hc2 xTn) (hc3 xPa) (hc4 xUp) (hc5 xMn xSt xAb xVa) (hc6 xAl) (hc7 xHa) (hc8 xNm) (hc9 xBy xBs) (hc10 xA1 xF1 xT1 xP1 xD1) (hc11 (.ref (q + 50)) xF2 xT2 xP2 xD2) (hc12 xTl) (hc13 xKi) (hc14 xAm) (hc15 xPl) (hc16 xCs xCo xCa) (hc17 xGo) (hc18 xOl xKn) (hc19 xKe) (hc20 xTo) (hc21 xFa) (hc22 xRe) (hc23 xVl) (hc24 xAr) c25 c26 c27 c28 c29 c30 c31 c32 c33 c34 c35 c36 c37 c38 c39 c40 c41 c42 c43 c44 c45 c46 c47 c48 c49 dyn, 0, 0)) rfl ?_
      refine pm_go (g := (41, _, [.int 0], _, 0, 0)) rfl ?_
      exact pm_ret rfl (k1 (fun q => absurd (q k (Nat.le_refl k) (by omega) (by assumption)) (by assumption)))
    show pm_WP 61 (21, [(2, .int (nI k)), (0, .ref 11), (1, .ref (m + 50))], [.int 0], hq g (hc1 xTc xFc xRc xVc xLr xFl) (hc2 xTn) (hc3 xPa) (hc4 xUp) (hc5 xMn xSt xAb xVa) (hc6 xAl) (hc7 xHa) (hc8 xNm) (hc9 xBy xBs) (hc10 xA1 xF1 xT1 xP1 xD1) (hc11 (.ref (q + 50)) xF2 xT2 xP2 xD2) (hc12 xTl) (hc13 xKi) (hc14 xAm) (hc15 xPl) (hc16 xCs xCo xCa) (hc17 xGo) (hc18 xOl xKn) (hc19 xKe) (hc20 xTo) (hc21 xFa) (hc22 xRe) (hc23 xVl) (hc24 xAr) c25 c26 c27 c28 c29 c30 c31 c32 c33 c34 c35 c36 c37 c38 c39 c40 c41 c42 c43 c44 c45 c46 c47 c48 c49 dyn, 0, 0) _
    rw [hkc] at h10
    refine pm_brT (g := (42, [(2, .int (nI k)), (0, .ref 11), (1, .ref (m + 50))], [], hq g (hc1 xTc xFc xRc xVc xLr xFl) (hc2 xTn) (hc3 xPa) (hc4 xUp) (hc5 xMn xSt xAb xVa) (hc6 xAl) (hc7 xHa) (hc8 xNm) (hc9 xBy xBs) (hc10 xA1 xF1 xT1 xP1 xD1) (hc11 (.ref (q + 50)) xF2 xT2 xP2 xD2) (hc12 xTl) (hc13 xKi) (hc14 xAm) (hc15 xPl) (hc16 xCs xCo xCa) (hc17 xGo) (hc18 xOl xKn) (hc19 xKe) (hc20 xTo) (hc21 xFa) (hc22 xRe) (hc23 xVl) (hc24 xAr) c25 c26 c27 c28 c29 c30 c31 c32 c33 c34 c35 c36 c37 c38 c39 c40 c41 c42 c43 c44 c45 c46 c47 c48 c49 dyn, 0, 0)) rfl ?_
    refine pm_go (g := (45, [(2, .int ((nI k) + 1)), (0, .ref 11), (1, .ref (m + 50))], [], _, 0, 0)) rfl ?_
    refine pm_go (g := (2, _, [], _, 0, 0)) rfl ?_
    refine pm_sub (lv := [(2, .int ((nI k) + 1)), (0, .ref 11), (1, .ref (m + 50))]) ?_ ⟨le_c (List.Mem.head _) (le_c (List.Mem.tail _ (List.Mem.head _)) (le_c (List.Mem.tail _ (List.Mem.tail _ (List.Mem.head _))) le_n)), (show ([2, 0, 1] : List Nat).Nodup by decide)⟩
    rw [nI_1]
    refine ih (k + 1) (by omega) (by omega) (fun h => k0 (fun j q1 q2 q3 => ?_)) (fun h => k1 (fun q => h (fun j q1 q2 => q j (by omega) q2)))
    rcases Nat.eq_or_lt_of_le q1 with e9 | e9
    · subst e9; first | assumption | (simp_all; done)
    · exact h j e9 q2 q3
set_option maxRecDepth 100000 in
set_option maxHeartbeats 4000000 in
theorem f_X6_isSpecial_11 {g c25 c26 c27 c28 c29 c30 c31 c32 c33 c34 c35 c36 c37 c38 c39 c40 c41 c42 c43 c44 c45 c46 c47 c48 c49 : pm_C} {dyn : pm_H} {dOt dNa dRe dMa dMy dPm : Nat → Int32} {xTc : Int32} {xFc : Int32} {xRc : Int32} {xVc : Int32} {xLr : Int32} {xFl : Int32} {xTn : Int32} {xMn : Int32} {xSt : Int64} {xAb : Int64} {xVa : Int64} {xBy : Value} {xBs : Int32} {xA1 : Value} {xF1 : Int32} {xT1 : Int64} {xP1 : Int32} {xD1 : Value} {xF2 : Int32} {xT2 : Int64} {xP2 : Int32} {xD2 : Value} {xTl : Int32} {xCs : Int32} {xCo : Int32} {xCa : Value} {xOl : Int32} {xKn : Int32} {xPa : Nat → Int32} {xUp : Nat → Int32} {xAl : Nat → Option Nat} {xHa : Nat → Int64} {xNm : Nat → Int64} {xKi : Nat → Int32} {xAm : Nat → Int32} {xPl : Nat → Int32} {xGo : Nat → Int32} {xKe : Nat → Int32} {xTo : Nat → Int32} {xFa : Nat → Option Nat} {xRe : Nat → Option Nat} {xVl : Nat → Option Nat} {xAr : Nat → Int32} {Q : pm_Q} (m i_m : Nat) (q n_q : Nat) (f_q : Nat → Int32) (a_m : mbF dOt dNa dRe dMa dMy dPm dyn m i_m) (a_q : isAr dyn q n_q f_q) (p0 : 0 ≤ xF2.toInt ∧ xF2.toInt ≤ 1) (p1 : 0 ≤ xMn.toInt ∧ xMn.toInt ≤ 40) (p2 : alF dOt dNa dRe dMa dMy dPm xMn xAl dyn) (k0 : (spX xUp dMy dPm xT2 xMn ((n_q : Int) - xF2.toInt) xP2 i_m 0) → Q (some (.int 1)) (hq g (hc1 xTc xFc xRc xVc xLr xFl) (hc2 xTn) (hc3 xPa) (hc4 xUp) (hc5 xMn xSt xAb xVa) (hc6 xAl) (hc7 xHa) (hc8 xNm) (hc9 xBy xBs) (hc10 xA1 xF1 xT1 xP1 xD1) (hc11 (.ref (q + 50)) xF2 xT2 xP2 xD2) (hc12 xTl) (hc13 xKi) (hc14 xAm) (hc15 xPl) (hc16 xCs xCo xCa) (hc17 xGo) (hc18 xOl xKn) (hc19 xKe) (hc20 xTo) (hc21 xFa) (hc22 xRe) (hc23 xVl) (hc24 xAr) c25 c26 c27 c28 c29 c30 c31 c32 c33 c34 c35 c36 c37 c38 c39 c40 c41 c42 c43 c44 c45 c46 c47 c48 c49 dyn)) (k1 : (¬ (spX xUp dMy dPm xT2 xMn ((n_q : Int) - xF2.toInt) xP2 i_m 0)) → Q (some (.int 0)) (hq g (hc1 xTc xFc xRc xVc xLr xFl) (hc2 xTn) (hc3 xPa) (hc4 xUp) (hc5 xMn xSt xAb xVa) (hc6 xAl) (hc7 xHa) (hc8 xNm) (hc9 xBy xBs) (hc10 xA1 xF1 xT1 xP1 xD1) (hc11 (.ref (q + 50)) xF2 xT2 xP2 xD2) (hc12 xTl) (hc13 xKi) (hc14 xAm) (hc15 xPl) (hc16 xCs xCo xCa) (hc17 xGo) (hc18 xOl xKn) (hc19 xKe) (hc20 xTo) (hc21 xFa) (hc22 xRe) (hc23 xVl) (hc24 xAr) c25 c26 c27 c28 c29 c30 c31 c32 c33 c34 c35 c36 c37 c38 c39 c40 c41 c42 c43 c44 c45 c46 c47 c48 c49 dyn)) : pm_WP 61 (0, [(0, .ref 11), (1, .ref (m + 50))], [], hq g (hc1 xTc xFc xRc xVc xLr xFl) (hc2 xTn) (hc3 xPa) (hc4 xUp) (hc5 xMn xSt xAb xVa) (hc6 xAl) (hc7 xHa) (hc8 xNm) (hc9 xBy xBs) (hc10 xA1 xF1 xT1 xP1 xD1) (hc11 (.ref (q + 50)) xF2 xT2 xP2 xD2) (hc12 xTl) (hc13 xKi) (hc14 xAm) (hc15 xPl) (hc16 xCs xCo xCa) (hc17 xGo) (hc18 xOl xKn) (hc19 xKe) (hc20 xTo) (hc21 xFa) (hc22 xRe) (hc23 xVl) (hc24 xAr) c25 c26 c27 c28 c29 c30 c31 c32 c33 c34 c35 c36 c37 c38 c39 c40 c41 c42 c43 c44 c45 c46 c47 c48 c49 dyn, 0, 0) Q := by
  obtain ⟨pw1, h2, h3, h4⟩ := id a_m
  obtain ⟨h5, h6⟩ := id a_q
  refine pm_go (g := (1, [(0, .ref 11), (1, .ref (m + 50))], [.int 0], hq g (hc1 xTc xFc xRc xVc xLr xFl) (hc2 xTn) (hc3 xPa) (hc4 xUp) (hc5 xMn xSt xAb xVa) (hc6 xAl) (hc7 xHa) (hc8 xNm) (hc9 xBy xBs) (hc10 xA1 xF1 xT1 xP1 xD1) (hc11 (.ref (q + 50)) xF2 xT2 xP2 xD2) (hc12 xTl) (hc13 xKi) (hc14 xAm) (hc15 xPl) (hc16 xCs xCo xCa) (hc17 xGo) (hc18 xOl xKn) (hc19 xKe) (hc20 xTo) (hc21 xFa) (hc22 xRe) (hc23 xVl) (hc24 xAr) c25 c26 c27 c28 c29 c30 c31 c32 c33 c34 c35 c36 c37 c38 c39 c40 c41 c42 c43 c44 c45 c46 c47 c48 c49 dyn, 0, 0)) rfl ?_
  refine pm_go (g := (2, [(2, .int 0), (0, .ref 11), (1, .ref (m + 50))], [], _, 0, 0)) rfl ?_
  refine pm_sub (lv := [(2, .int 0), (0, .ref 11), (1, .ref (m + 50))]) ?_ ⟨le_c (List.Mem.head _) (le_c (List.Mem.tail _ (List.Mem.head _)) (le_c (List.Mem.tail _ (List.Mem.tail _ (List.Mem.head _))) le_n)), (show ([2, 0, 1] : List Nat).Nodup by decide)⟩
  exact f_X6_isSpecial_11_l m i_m q n_q f_q a_m a_q p0 p1 p2 41 0 (by omega) (by omega) k0 k1
set_option maxRecDepth 100000 in
set_option maxHeartbeats 4000000 in
theorem f_X6_mostSpecial_11_2 {g c25 c26 c27 c28 c29 c30 c31 c32 c33 c34 c35 c36 c37 c38 c39 c40 c41 c42 c43 c44 c45 c46 c47 c48 c49 : pm_C} {dyn : pm_H} {dOt dNa dRe dMa dMy dPm : Nat → Int32} {xTc : Int32} {xFc : Int32} {xRc : Int32} {xVc : Int32} {xLr : Int32} {xFl : Int32} {xTn : Int32} {xMn : Int32} {xSt : Int64} {xAb : Int64} {xVa : Int64} {xBy : Value} {xBs : Int32} {xA1 : Value} {xF1 : Int32} {xT1 : Int64} {xP1 : Int32} {xD1 : Value} {xF2 : Int32} {xT2 : Int64} {xP2 : Int32} {xD2 : Value} {xTl : Int32} {xCs : Int32} {xCo : Int32} {xCa : Value} {xOl : Int32} {xKn : Int32} {xPa : Nat → Int32} {xUp : Nat → Int32} {xAl : Nat → Option Nat} {xHa : Nat → Int64} {xNm : Nat → Int64} {xKi : Nat → Int32} {xAm : Nat → Int32} {xPl : Nat → Int32} {xGo : Nat → Int32} {xKe : Nat → Int32} {xTo : Nat → Int32} {xFa : Nat → Option Nat} {xRe : Nat → Option Nat} {xVl : Nat → Option Nat} {xAr : Nat → Int32} {Q : pm_Q} (o i_o : Nat) (q n_q : Nat) (f_q : Nat → Int32) (a_o : mbF dOt dNa dRe dMa dMy dPm dyn o i_o) (a_q : isAr dyn q n_q f_q) (p0 : 0 ≤ xF2.toInt ∧ xF2.toInt ≤ 1) (p1 : 0 ≤ xMn.toInt ∧ xMn.toInt ≤ 40) (p2 : alF dOt dNa dRe dMa dMy dPm xMn xAl dyn) : ∀ (n k : Nat), ((k : Int) ≤ xMn.toInt) → (40 < k + n) → (i_o < k) → ((fun b => bl xT2 b = true ∧ spX xUp dMy dPm xT2 xMn ((n_q : Int) - xF2.toInt) xP2 b 0) i_o) → (∀ j : Nat, j < k → (fun b => bl xT2 b = true ∧ spX xUp dMy dPm xT2 xMn ((n_q : Int) - xF2.toInt) xP2 b 0) j → j = i_o) → ((¬ ∃ b : Nat, oneP (fun b => bl xT2 b = true ∧ spX xUp dMy dPm xT2 xMn ((n_q : Int) - xF2.toInt) xP2 b 0) xMn b) → Q (some .null) (hq g (hc1 xTc xFc xRc xVc xLr xFl) (hc2 xTn) (hc3 xPa) (hc4 xUp) (hc5 xMn xSt xAb xVa) (hc6 xAl) (hc7 xHa) (hc8 xNm) (hc9 xBy xBs) (hc10 xA1 xF1 xT1 xP1 xD1) (hc11 (.ref (q + 50)) xF2 xT2 xP2 xD2) (hc12 xTl) (hc13 xKi) (hc14 xAm) (hc15 xPl) (hc16 xCs xCo xCa) (hc17 xGo) (hc18 xOl xKn) (hc19 xKe) (hc20 xTo) (hc21 xFa) (hc22 xRe) (hc23 xVl) (hc24 xAr) c25 c26 c27 c28 c29 c30 c31 c32 c33 c34 c35 c36 c37 c38 c39 c40 c41 c42 c43 c44 c45 c46 c47 c48 c49 dyn)) → (∀ j9 b9 : Nat, mbF dOt dNa dRe dMa dMy dPm dyn j9 b9 → oneP (fun b => bl xT2 b = true ∧ spX xUp dMy dPm xT2 xMn ((n_q : Int) - xF2.toInt) xP2 b 0) xMn b9 → Q (some (.ref (j9 + 50))) (hq g (hc1 xTc xFc xRc xVc xLr xFl) (hc2 xTn) (hc3 xPa) (hc4 xUp) (hc5 xMn xSt xAb xVa) (hc6 xAl) (hc7 xHa) (hc8 xNm) (hc9 xBy xBs) (hc10 xA1 xF1 xT1 xP1 xD1) (hc11 (.ref (q + 50)) xF2 xT2 xP2 xD2) (hc12 xTl) (hc13 xKi) (hc14 xAm) (hc15 xPl) (hc16 xCs xCo xCa) (hc17 xGo) (hc18 xOl xKn) (hc19 xKe) (hc20 xTo) (hc21 xFa) (hc22 xRe) (hc23 xVl) (hc24 xAr) c25 c26 c27 c28 c29 c30 c31 c32 c33 c34 c35 c36 c37 c38 c39 c40 c41 c42 c43 c44 c45 c46 c47 c48 c49 dyn)) → pm_WP 60 (4, [(2, .int (nI k)), (1, .ref (o + 50)), (0, .ref 11)], [], hq g (hc1 xTc xFc xRc xVc xLr xFl) (hc2 xTn) (hc3 xPa) (hc4 xUp) (hc5 xMn xSt xAb xVa) (hc6 xAl) (hc7 xHa) (hc8 xNm) (hc9 xBy xBs) (hc10 xA1 xF1 xT1 xP1 xD1) (hc11 (.ref (q + 50)) xF2 xT2 xP2 xD2) (hc12 xTl) (hc13 xKi) (hc14 xAm) (hc15 xPl) (hc16 xCs xCo xCa) (hc17 xGo) (hc18 xOl xKn) (hc19 xKe) (hc20 xTo) (hc21 xFa) (hc22 xRe) (hc23 xVl) (hc24 xAr) c25 c26 c27 c28 c29 c30 c31 c32 c33 c34 c35 c36 c37 c38 c39 c40 c41 c42 c43 c44 c45 c46 c47 c48 c49 dyn, 0, 0) Q := by
  intro n
  induction n with
  | zero =>
    intro k g1 g2 g3 g4 g5 k0 k1
    exfalso; omega
  | succ n ih =>
    intro k g1 g2 g3 g4 g5 k0 k1
    have hk := nI_toInt (n := k) (by omega)
    have hkc : (nI k).toNatClampNeg = k := nI_clamp (by omega)
    obtain ⟨pw1, h2, h3, h4⟩ := id a_o
    obtain ⟨h5, h6⟩ := id a_q
    refine pm_go (g := (5, [(2, .int (nI k)), (1, .ref (o + 50)), (0, .ref 11)], [.int (nI k)], hq g (hc1 xTc xFc xRc xVc xLr xFl) (hc2 xTn) (hc3 xPa) (hc4 xUp) (hc5 xMn xSt xAb xVa) (hc6 xAl) (hc7 xHa) (hc8 xNm) (hc9 xBy xBs) (hc10 xA1 xF1 xT1 xP1 xD1) (hc11 (.ref (q + 50)) xF2 xT2 xP2 xD2) (hc12 xTl) (hc13 xKi) (hc14 xAm) (hc15 xPl) (hc16 xCs xCo xCa) (hc17 xGo) (hc18 xOl xKn) (hc19 xKe) (hc20 xTo) (hc21 xFa) (hc22 xRe) (hc23 xVl) (hc24 xAr) c25 c26 c27 c28 c29 c30 c31 c32 c33 c34 c35 c36 c37 c38 c39 c40 c41 c42 c43 c44 c45 c46 c47 c48 c49 dyn, 0, 0)) rfl ?_
    refine pm_go (g := (6, _, [.ref 11, .int (nI k)], _, 0, 0)) rfl ?_
    refine pm_go (g := (9, _, [.ref 5, .int (nI k)], _, 0, 0)) rfl ?_
    refine pm_callD (z := 33) (as := [.ref 5]) (rest := [.int (nI k)]) rfl ?_
    refine f_X4_size  ?_
    show pm_WP 60 (12, [(2, .int (nI k)), (1, .ref (o + 50)), (0, .ref 11)], [.int xMn, .int (nI k)], _, 0, 0) _
    refine pm_if2 (g := (62, [(2, .int (nI k)), (1, .ref (o + 50)), (0, .ref 11)], [], hq g (hc1 xTc xFc xRc xVc xLr xFl) (hc2 xTn) (hc3 xPa) (hc4 xUp) (hc5 xMn xSt xAb xVa) (hc6 xAl) (hc7 xHa) (hc8 xNm) (hc9 xBy xBs) (hc10 xA1 xF1 xT1 xP1 xD1) (hc11 (.ref (q + 50)) xF2 xT2 xP2 xD2) (hc12 xTl) (hc13 xKi) (hc14 xAm) (hc15 xPl) (hc16 xCs xCo xCa) (hc17 xGo) (hc18 xOl xKn) (hc19 xKe) (hc20 xTo) (hc21 xFa) (hc22 xRe) (hc23 xVl) (hc24 xAr) c25 c26 c27 c28 c29 c30 c31 c32 c33 c34 c35 c36 c37 c38 c39 c40 c41 c42 c43 c44 c45 c46 c47 c48 c49 dyn, 0, 0)) (h := (15, [(2, .int (nI k)), (1, .ref (o + 50)), (0, .ref 11)], [], hq g (hc1 xTc xFc xRc xVc xLr xFl) (hc2 xTn) (hc3 xPa) (hc4 xUp) (hc5 xMn xSt xAb xVa) (hc6 xAl) (hc7 xHa) (hc8 xNm) (hc9 xBy xBs) (hc10 xA1 xF1 xT1 xP1 xD1) (hc11 (.ref (q + 50)) xF2 xT2 xP2 xD2) (hc12 xTl) (hc13 xKi) (hc14 xAm) (hc15 xPl) (hc16 xCs xCo xCa) (hc17 xGo) (hc18 xOl xKn) (hc19 xKe) (hc20 xTo) (hc21 xFa) (hc22 xRe) (hc23 xVl) (hc24 xAr) c25 c26 c27 c28 c29 c30 c31 c32 c33 c34 c35 c36 c37 c38 c39 c40 c41 c42 c43 c44 c45 c46 c47 c48 c49 dyn, 0, 0)) rfl (fun h8 => ?_) (fun h8 => ?_)
    ·
      have h8 := qT_ge (cx := (nI k).toInt) (cy := (xMn).toInt) rfl rfl h8
      refine pm_go (g := (63, _, [.ref (o + 50)], _, 0, 0)) rfl ?_
      exact pm_ret rfl (k1 _ _ a_o ⟨by omega, g4, fun j q1 q2 => g5 j (by omega) q2⟩)
    have h8 := qF_ge (cx := (nI k).toInt) (cy := (xMn).toInt) rfl rfl h8
    refine pm_go (g := (16, _, [.ref 11], _, 0, 0)) rfl ?_
    refine pm_go (g := (19, _, [.long xT2], _, 0, 0)) rfl ?_
    refine pm_go (g := (20, _, [.int (nI k), .long xT2], _, 0, 0)) rfl ?_
    refine pm_callD (z := 50) (as := [.long xT2, .int (nI k)]) (rest := []) rfl ?_
    refine f_X4_isIn xT2 (nI k) (by omega) (fun h9 => ?_) (fun h10 => ?_)
    ·
      show pm_WP 60 (23, [(2, .int (nI k)), (1, .ref (o + 50)), (0, .ref 11)], [.int 1], _, 0, 0) _
      rw [hkc] at h9
      refine pm_brF (h := (26, [(2, .int (nI k)), (1, .ref (o + 50)), (0, .ref 11)], [], hq g (hc1 xTc xFc xRc xVc xLr xFl) (hc2 xTn) (hc3 xPa) (hc4 xUp) (hc5 xMn xSt xAb xVa) (hc6 xAl) (hc7 xHa) (hc8 xNm) (hc9 xBy xBs) (hc10 xA1 xF1 xT1 xP1 xD1) (hc11 (.ref (q + 50)) xF2 xT2 xP2 xD2) (hc12 xTl) (hc13 xKi) (hc14 xAm) (hc15 xPl) (hc16 xCs xCo xCa) (hc17 xGo) (hc18 xOl xKn) (hc19 xKe) (hc20 xTo) (hc21 xFa) (hc22 xRe) (hc23 xVl) (hc24 xAr) c25 c26 c27 c28 c29 c30 c31 c32 c33 c34 c35 c36 c37 c38 c39 c40 c41 c42 c43 c44 c45 c46 c47 c48 c49 dyn, 0, 0)) rfl ?_
      refine pm_go (g := (27, _, [.ref 11], _, 0, 0)) rfl ?_
      refine pm_go (g := (28, _, [.ref 11, .ref 11], _, 0, 0)) rfl ?_
      refine pm_go (g := (31, _, [.ref 5, .ref 11], _, 0, 0)) rfl ?_
      refine pm_go (g := (32, _, [.int (nI k), .ref 5, .ref 11], _, 0, 0)) rfl ?_
      refine pm_callD (z := 45) (as := [.ref 5, .int (nI k)]) (rest := [.ref 11]) rfl ?_
      refine f_X4_at (nI k) (by omega) (by first | assumption | rfl) (by omega) (fun v12_j9 h12 => ?_)
      show pm_WP 60 (35, [(2, .int (nI k)), (1, .ref (o + 50)), (0, .ref 11)], [.ref (v12_j9 + 50), .ref 11], _, 0, 0) _
      rw [nI_c (by omega)] at h12
      obtain ⟨pw14, h15, h16, h17⟩ := id h12
      refine pm_callD (z := 61) (as := [.ref 11, .ref (v12_j9 + 50)]) (rest := []) rfl ?_
      refine f_X6_isSpecial_11 v12_j9 k q n_q f_q h12 ⟨h5, by omega⟩ (by omega) (by omega) (by first | assumption | rfl) (fun h18 => ?_) (fun h19 => ?_)
      ·
        show pm_WP 60 (38, [(2, .int (nI k)), (1, .ref (o + 50)), (0, .ref 11)], [.int 1], _, 0, 0) _
        refine pm_brF (h := (41, [(2, .int (nI k)), (1, .ref (o + 50)), (0, .ref 11)], [], hq g (hc1 xTc xFc xRc xVc xLr xFl) (hc2 xTn) (hc3 xPa) (hc4 xUp) (hc5 xMn xSt xAb xVa) (hc6 xAl) (hc7 xHa) (hc8 xNm) (hc9 xBy xBs) (hc10 xA1 xF1 xT1 xP1 xD1) (hc11 (.ref (q + 50)) xF2 xT2 xP2 xD2) (hc12 xTl) (hc13 xKi) (hc14 xAm) (hc15 xPl) (hc16 xCs xCo xCa) (hc17 xGo) (hc18 xOl xKn) (hc19 xKe) (hc20 xTo) (hc21 xFa) (hc22 xRe) (hc23 xVl) (hc24 xAr) c25 c26 c27 c28 c29 c30 c31 c32 c33 c34 c35 c36 c37 c38 c39 c40 c41 c42 c43 c44 c45 c46 c47 c48 c49 dyn, 0, 0)) rfl ?_
        refine pm_go (g := (42, _, [.ref (o + 50)], _, 0, 0)) rfl ?_
        refine pm_go (g := (45, _, [], _, 0, 0)) rfl ?_
        refine pm_go (g := (46, _, [.null], _, 0, 0)) rfl ?_
        refine pm_ret rfl (k0 ?_)
        rintro ⟨b, q1, q2, q3⟩
        have e1 := q3 i_o (by omega) g4
        have e2 := q3 k (by omega) ⟨by assumption, by assumption⟩
        omega
      show pm_WP 60 (38, [(2, .int (nI k)), (1, .ref (o + 50)), (0, .ref 11)], [.int 0], hq g (hc1 xTc xFc xRc xVc xLr xFl) (hc2 xTn) (hc3 xPa) (hc4 xUp) (hc5 xMn xSt xAb xVa) (hc6 xAl) (hc7 xHa) (hc8 xNm) (hc9 xBy xBs) (hc10 xA1 xF1 xT1 xP1 xD1) (hc11 (.ref (q + 50)) xF2 xT2 xP2 xD2) (hc12 xTl) (hc13 xKi) (hc14 xAm) (hc15 xPl) (hc16 xCs xCo xCa) (hc17 xGo) (hc18 xOl xKn) (hc19 xKe) (hc20 xTo) (hc21 xFa) (hc22 xRe) (hc23 xVl) (hc24 xAr) c25 c26 c27 c28 c29 c30 c31 c32 c33 c34 c35 c36 c37 c38 c39 c40 c41 c42 c43 c44 c45 c46 c47 c48 c49 dyn, 0, 0) _
      refine pm_brT (g := (56, [(2, .int (nI k)), (1, .ref (o + 50)), (0, .ref 11)], [], hq g (hc1 xTc xFc xRc xVc xLr xFl) (hc2 xTn) (hc3 xPa) (hc4 xUp) (hc5 xMn xSt xAb xVa) (hc6 xAl) (hc7 xHa) (hc8 xNm) (hc9 xBy xBs) (hc10 xA1 xF1 xT1 xP1 xD1) (hc11 (.ref (q + 50)) xF2 xT2 xP2 xD2) (hc12 xTl) (hc13 xKi) (hc14 xAm) (hc15 xPl) (hc16 xCs xCo xCa) (hc17 xGo) (hc18 xOl xKn) (hc19 xKe) (hc20 xTo) (hc21 xFa) (hc22 xRe) (hc23 xVl) (hc24 xAr) c25 c26 c27 c28 c29 c30 c31 c32 c33 c34 c35 c36 c37 c38 c39 c40 c41 c42 c43 c44 c45 c46 c47 c48 c49 dyn, 0, 0)) rfl ?_
      refine pm_go (g := (59, [(2, .int ((nI k) + 1)), (1, .ref (o + 50)), (0, .ref 11)], [], _, 0, 0)) rfl ?_
      refine pm_go (g := (4, _, [], _, 0, 0)) rfl ?_
      refine pm_sub (lv := [(2, .int ((nI k) + 1)), (1, .ref (o + 50)), (0, .ref 11)]) ?_ ⟨le_c (List.Mem.head _) (le_c (List.Mem.tail _ (List.Mem.head _)) (le_c (List.Mem.tail _ (List.Mem.tail _ (List.Mem.head _))) le_n)), (show ([2, 1, 0] : List Nat).Nodup by decide)⟩
      rw [nI_1]
      refine ih (k + 1) (by omega) (by omega) (by omega) g4 (fun j q1 q2 => ?_) k0 k1
      rcases Nat.lt_succ_iff_lt_or_eq.mp q1 with q | q
      · exact g5 j q q2
      · subst q; exfalso; first | exact absurd q2.2 (by assumption) | (simp_all; done)
    show pm_WP 60 (23, [(2, .int (nI k)), (1, .ref (o + 50)), (0, .ref 11)], [.int 0], hq g (hc1 xTc xFc xRc xVc xLr xFl) (hc2 xTn) (hc3 xPa) (hc4 xUp) (hc5 xMn xSt xAb xVa) (hc6 xAl) (hc7 xHa) (hc8 xNm) (hc9 xBy xBs) (hc10 xA1 xF1 xT1 xP1 xD1) (hc11 (.ref (q + 50)) xF2 xT2 xP2 xD2) (hc12 xTl) (hc13 xKi) (hc14 xAm) (hc15 xPl) (hc16 xCs xCo xCa) (hc17 xGo) (hc18 xOl xKn) (hc19 xKe) (hc20 xTo) (hc21 xFa) (hc22 xRe) (hc23 xVl) (hc24 xAr) c25 c26 c27 c28 c29 c30 c31 c32 c33 c34 c35 c36 c37 c38 c39 c40 c41 c42 c43 c44 c45 c46 c47 c48 c49 dyn, 0, 0) _
    rw [hkc] at h10
    refine pm_brT (g := (56, [(2, .int (nI k)), (1, .ref (o + 50)), (0, .ref 11)], [], hq g (hc1 xTc xFc xRc xVc xLr xFl) (hc2 xTn) (hc3 xPa) (hc4 xUp) (hc5 xMn xSt xAb xVa) (hc6 xAl) (hc7 xHa) (hc8 xNm) (hc9 xBy xBs) (hc10 xA1 xF1 xT1 xP1 xD1) (hc11 (.ref (q + 50)) xF2 xT2 xP2 xD2) (hc12 xTl) (hc13 xKi) (hc14 xAm) (hc15 xPl) (hc16 xCs xCo xCa) (hc17 xGo) (hc18 xOl xKn) (hc19 xKe) (hc20 xTo) (hc21 xFa) (hc22 xRe) (hc23 xVl) (hc24 xAr) c25 c26 c27 c28 c29 c30 c31 c32 c33 c34 c35 c36 c37 c38 c39 c40 c41 c42 c43 c44 c45 c46 c47 c48 c49 dyn, 0, 0)) rfl ?_
    refine pm_go (g := (59, [(2, .int ((nI k) + 1)), (1, .ref (o + 50)), (0, .ref 11)], [], _, 0, 0)) rfl ?_
    refine pm_go (g := (4, _, [], _, 0, 0)) rfl ?_
    refine pm_sub (lv := [(2, .int ((nI k) + 1)), (1, .ref (o + 50)), (0, .ref 11)]) ?_ ⟨le_c (List.Mem.head _) (le_c (List.Mem.tail _ (List.Mem.head _)) (le_c (List.Mem.tail _ (List.Mem.tail _ (List.Mem.head _))) le_n)), (show ([2, 1, 0] : List Nat).Nodup by decide)⟩
    rw [nI_1]
    refine ih (k + 1) (by omega) (by omega) (by omega) g4 (fun j q1 q2 => ?_) k0 k1
    rcases Nat.lt_succ_iff_lt_or_eq.mp q1 with q | q
    · exact g5 j q q2
    · subst q; exfalso; first | exact absurd q2.2 (by assumption) | (simp_all; done)
set_option maxRecDepth 100000 in
set_option maxHeartbeats 4000000 in
theorem f_X6_mostSpecial_11_1 {g c25 c26 c27 c28 c29 c30 c31 c32 c33 c34 c35 c36 c37 c38 c39 c40 c41 c42 c43 c44 c45 c46 c47 c48 c49 : pm_C} {dyn : pm_H} {dOt dNa dRe dMa dMy dPm : Nat → Int32} {xTc : Int32} {xFc : Int32} {xRc : Int32} {xVc : Int32} {xLr : Int32} {xFl : Int32} {xTn : Int32} {xMn : Int32} {xSt : Int64} {xAb : Int64} {xVa : Int64} {xBy : Value} {xBs : Int32} {xA1 : Value} {xF1 : Int32} {xT1 : Int64} {xP1 : Int32} {xD1 : Value} {xF2 : Int32} {xT2 : Int64} {xP2 : Int32} {xD2 : Value} {xTl : Int32} {xCs : Int32} {xCo : Int32} {xCa : Value} {xOl : Int32} {xKn : Int32} {xPa : Nat → Int32} {xUp : Nat → Int32} {xAl : Nat → Option Nat} {xHa : Nat → Int64} {xNm : Nat → Int64} {xKi : Nat → Int32} {xAm : Nat → Int32} {xPl : Nat → Int32} {xGo : Nat → Int32} {xKe : Nat → Int32} {xTo : Nat → Int32} {xFa : Nat → Option Nat} {xRe : Nat → Option Nat} {xVl : Nat → Option Nat} {xAr : Nat → Int32} {Q : pm_Q} (q n_q : Nat) (f_q : Nat → Int32) (a_q : isAr dyn q n_q f_q) (p0 : 0 ≤ xF2.toInt ∧ xF2.toInt ≤ 1) (p1 : 0 ≤ xMn.toInt ∧ xMn.toInt ≤ 40) (p2 : alF dOt dNa dRe dMa dMy dPm xMn xAl dyn) : ∀ (n k : Nat), ((k : Int) ≤ xMn.toInt) → (40 < k + n) → (∀ j : Nat, j < k → ¬ (fun b => bl xT2 b = true ∧ spX xUp dMy dPm xT2 xMn ((n_q : Int) - xF2.toInt) xP2 b 0) j) → ((¬ ∃ b : Nat, oneP (fun b => bl xT2 b = true ∧ spX xUp dMy dPm xT2 xMn ((n_q : Int) - xF2.toInt) xP2 b 0) xMn b) → Q (some .null) (hq g (hc1 xTc xFc xRc xVc xLr xFl) (hc2 xTn) (hc3 xPa) (hc4 xUp) (hc5 xMn xSt xAb xVa) (hc6 xAl) (hc7 xHa) (hc8 xNm) (hc9 xBy xBs) (hc10 xA1 xF1 xT1 xP1 xD1) (hc11 (.ref (q + 50)) xF2 xT2 xP2 xD2) (hc12 xTl) (hc13 xKi) (hc14 xAm) (hc15 xPl) (hc16 xCs xCo xCa) (hc17 xGo) (hc18 xOl xKn) (hc19 xKe) (hc20 xTo) (hc21 xFa) (hc22 xRe) (hc23 xVl) (hc24 xAr) c25 c26 c27 c28 c29 c30 c31 c32 c33 c34 c35 c36 c37 c38 c39 c40 c41 c42 c43 c44 c45 c46 c47 c48 c49 dyn)) → (∀ j9 b9 : Nat, mbF dOt dNa dRe dMa dMy dPm dyn j9 b9 → oneP (fun b => bl xT2 b = true ∧ spX xUp dMy dPm xT2 xMn ((n_q : Int) - xF2.toInt) xP2 b 0) xMn b9 → Q (some (.ref (j9 + 50))) (hq g (hc1 xTc xFc xRc xVc xLr xFl) (hc2 xTn) (hc3 xPa) (hc4 xUp) (hc5 xMn xSt xAb xVa) (hc6 xAl) (hc7 xHa) (hc8 xNm) (hc9 xBy xBs) (hc10 xA1 xF1 xT1 xP1 xD1) (hc11 (.ref (q + 50)) xF2 xT2 xP2 xD2) (hc12 xTl) (hc13 xKi) (hc14 xAm) (hc15 xPl) (hc16 xCs xCo xCa) (hc17 xGo) (hc18 xOl xKn) (hc19 xKe) (hc20 xTo) (hc21 xFa) (hc22 xRe) (hc23 xVl) (hc24 xAr) c25 c26 c27 c28 c29 c30 c31 c32 c33 c34 c35 c36 c37 c38 c39 c40 c41 c42 c43 c44 c45 c46 c47 c48 c49 dyn)) → pm_WP 60 (4, [(2, .int (nI k)), (1, .null), (0, .ref 11)], [], hq g (hc1 xTc xFc xRc xVc xLr xFl) (hc2 xTn) (hc3 xPa) (hc4 xUp) (hc5 xMn xSt xAb xVa) (hc6 xAl) (hc7 xHa) (hc8 xNm) (hc9 xBy xBs) (hc10 xA1 xF1 xT1 xP1 xD1) (hc11 (.ref (q + 50)) xF2 xT2 xP2 xD2) (hc12 xTl) (hc13 xKi) (hc14 xAm) (hc15 xPl) (hc16 xCs xCo xCa) (hc17 xGo) (hc18 xOl xKn) (hc19 xKe) (hc20 xTo) (hc21 xFa) (hc22 xRe) (hc23 xVl) (hc24 xAr) c25 c26 c27 c28 c29 c30 c31 c32 c33 c34 c35 c36 c37 c38 c39 c40 c41 c42 c43 c44 c45 c46 c47 c48 c49 dyn, 0, 0) Q := by
  intro n
  induction n with
  | zero =>
    intro k g1 g2 g3 k0 k1
    exfalso; omega
  | succ n ih =>
    intro k g1 g2 g3 k0 k1
    have hk := nI_toInt (n := k) (by omega)
    have hkc : (nI k).toNatClampNeg = k := nI_clamp (by omega)
    obtain ⟨h1, h2⟩ := id a_q
    refine pm_go (g := (5, [(2, .int (nI k)), (1, .null), (0, .ref 11)], [.int (nI k)], hq g (hc1 xTc xFc xRc xVc xLr xFl) (hc2 xTn) (hc3 xPa) (hc4 xUp) (hc5 xMn xSt xAb xVa) (hc6 xAl) (hc7 xHa) (hc8 xNm) (hc9 xBy xBs) (hc10 xA1 xF1 xT1 xP1 xD1) (hc11 (.ref (q + 50)) xF2 xT2 xP2 xD2) (hc12 xTl) (hc13 xKi) (hc14 xAm) (hc15 xPl) (hc16 xCs xCo xCa) (hc17 xGo) (hc18 xOl xKn) (hc19 xKe) (hc20 xTo) (hc21 xFa) (hc22 xRe) (hc23 xVl) (hc24 xAr) c25 c26 c27 c28 c29 c30 c31 c32 c33 c34 c35 c36 c37 c38 c39 c40 c41 c42 c43 c44 c45 c46 c47 c48 c49 dyn, 0, 0)) rfl ?_
    refine pm_go (g := (6, _, [.ref 11, .int (nI k)], _, 0, 0)) rfl ?_
    refine pm_go (g := (9, _, [.ref 5, .int (nI k)], _, 0, 0)) rfl ?_
    refine pm_callD (z := 33) (as := [.ref 5]) (rest := [.int (nI k)]) rfl ?_
    refine f_X4_size  ?_
    show pm_WP 60 (12, [(2, .int (nI k)), (1, .null), (0, .ref 11)], [.int xMn, .int (nI k)], _, 0, 0) _
    refine pm_if2 (g := (62, [(2, .int (nI k)), (1, .null), (0, .ref 11)], [], hq g (hc1 xTc xFc xRc xVc xLr xFl) (hc2 xTn) (hc3 xPa) (hc4 xUp) (hc5 xMn xSt xAb xVa) (hc6 xAl) (hc7 xHa) (hc8 xNm) (hc9 xBy xBs) (hc10 xA1 xF1 xT1 xP1 xD1) (hc11 (.ref (q + 50)) xF2 xT2 xP2 xD2) (hc12 xTl) (hc13 xKi) (hc14 xAm) (hc15 xPl) (hc16 xCs xCo xCa) (hc17 xGo) (hc18 xOl xKn) (hc19 xKe) (hc20 xTo) (hc21 xFa) (hc22 xRe) (hc23 xVl) (hc24 xAr) c25 c26 c27 c28 c29 c30 c31 c32 c33 c34 c35 c36 c37 c38 c39 c40 c41 c42 c43 c44 c45 c46 c47 c48 c49 dyn, 0, 0)) (h := (15, [(2, .int (nI k)), (1, .null), (0, .ref 11)], [], hq g (hc1 xTc xFc xRc xVc xLr xFl) (hc2 xTn) (hc3 xPa) (hc4 xUp) (hc5 xMn xSt xAb xVa) (hc6 xAl) (hc7 xHa) (hc8 xNm) (hc9 xBy xBs) (hc10 xA1 xF1 xT1 xP1 xD1) (hc11 (.ref (q + 50)) xF2 xT2 xP2 xD2) (hc12 xTl) (hc13 xKi) (hc14 xAm) (hc15 xPl) (hc16 xCs xCo xCa) (hc17 xGo) (hc18 xOl xKn) (hc19 xKe) (hc20 xTo) (hc21 xFa) (hc22 xRe) (hc23 xVl) (hc24 xAr) c25 c26 c27 c28 c29 c30 c31 c32 c33 c34 c35 c36 c37 c38 c39 c40 c41 c42 c43 c44 c45 c46 c47 c48 c49 dyn, 0, 0)) rfl (fun h4 => ?_) (fun h4 => ?_)
    ·
      have h4 := qT_ge (cx := (nI k).toInt) (cy := (xMn).toInt) rfl rfl h4
      refine pm_go (g := (63, _, [.null], _, 0, 0)) rfl ?_
      refine pm_ret rfl (k0 ?_)
      rintro ⟨b, q1, q2, q3⟩
      exact g3 b (by omega) q2
    have h4 := qF_ge (cx := (nI k).toInt) (cy := (xMn).toInt) rfl rfl h4
    refine pm_go (g := (16, _, [.ref 11], _, 0, 0)) rfl ?_
    refine pm_go (g := (19, _, [.long xT2], _, 0, 0)) rfl ?_
    refine pm_go (g := (20, _, [.int (nI k), .long xT2], _, 0, 0)) rfl ?_
    refine pm_callD (z := 50) (as := [.long xT2, .int (nI k)]) (rest := []) rfl ?_
    refine f_X4_isIn xT2 (nI k) (by omega) (fun h5 => ?_) (fun h6 => ?_)
    ·
      show pm_WP 60 (23, [(2, .int (nI k)), (1, .null), (0, .ref 11)], [.int 1], _, 0, 0) _
      rw [hkc] at h5
      refine pm_brF (h := (26, [(2, .int (nI k)), (1, .null), (0, .ref 11)], [], hq g (hc1 xTc xFc xRc xVc xLr xFl) (hc2 xTn) (hc3 xPa) (hc4 xUp) (hc5 xMn xSt xAb xVa) (hc6 xAl) (hc7 xHa) (hc8 xNm) (hc9 xBy xBs) (hc10 xA1 xF1 xT1 xP1 xD1) (hc11 (.ref (q + 50)) xF2 xT2 xP2 xD2) (hc12 xTl) (hc13 xKi) (hc14 xAm) (hc15 xPl) (hc16 xCs xCo xCa) (hc17 xGo) (hc18 xOl xKn) (hc19 xKe) (hc20 xTo) (hc21 xFa) (hc22 xRe) (hc23 xVl) (hc24 xAr) c25 c26 c27 c28 c29 c30 c31 c32 c33 c34 c35 c36 c37 c38 c39 c40 c41 c42 c43 c44 c45 c46 c47 c48 c49 dyn, 0, 0)) rfl ?_
      refine pm_go (g := (27, _, [.ref 11], _, 0, 0)) rfl ?_
      refine pm_go (g := (28, _, [.ref 11, .ref 11], _, 0, 0)) rfl ?_
      refine pm_go (g := (31, _, [.ref 5, .ref 11], _, 0, 0)) rfl ?_
      refine pm_go (g := (32, _, [.int (nI k), .ref 5, .ref 11], _, 0, 0)) rfl ?_
      refine pm_callD (z := 45) (as := [.ref 5, .int (nI k)]) (rest := [.ref 11]) rfl ?_
      refine f_X4_at (nI k) (by omega) (by first | assumption | rfl) (by omega) (fun v8_j9 h8 => ?_)
      show pm_WP 60 (35, [(2, .int (nI k)), (1, .null), (0, .ref 11)], [.ref (v8_j9 + 50), .ref 11], _, 0, 0) _
      rw [nI_c (by omega)] at h8
      obtain ⟨pw10, h11, h12, h13⟩ := id h8
      refine pm_callD (z := 61) (as := [.ref 11, .ref (v8_j9 + 50)]) (rest := []) rfl ?_
      refine f_X6_isSpecial_11 v8_j9 k q n_q f_q h8 ⟨h1, by omega⟩ (by omega) (by omega) (by first | assumption | rfl) (fun h14 => ?_) (fun h15 => ?_)
      ·
        show pm_WP 60 (38, [(2, .int (nI k)), (1, .null), (0, .ref 11)], [.int 1], _, 0, 0) _
        refine pm_brF (h := (41, [(2, .int (nI k)), (1, .null), (0, .ref 11)], [], hq g (hc1 xTc xFc xRc xVc xLr xFl) (hc2 xTn) (hc3 xPa) (hc4 xUp) (hc5 xMn xSt xAb xVa) (hc6 xAl) (hc7 xHa) (hc8 xNm) (hc9 xBy xBs) (hc10 xA1 xF1 xT1 xP1 xD1) (hc11 (.ref (q + 50)) xF2 xT2 xP2 xD2) (hc12 xTl) (hc13 xKi) (hc14 xAm) (hc15 xPl) (hc16 xCs xCo xCa) (hc17 xGo) (hc18 xOl xKn) (hc19 xKe) (hc20 xTo) (hc21 xFa) (hc22 xRe) (hc23 xVl) (hc24 xAr) c25 c26 c27 c28 c29 c30 c31 c32 c33 c34 c35 c36 c37 c38 c39 c40 c41 c42 c43 c44 c45 c46 c47 c48 c49 dyn, 0, 0)) rfl ?_
        refine pm_go (g := (42, _, [.null], _, 0, 0)) rfl ?_
        refine pm_go (g := (47, _, [], _, 0, 0)) rfl ?_
        refine pm_go (g := (48, _, [.ref 11], _, 0, 0)) rfl ?_
        refine pm_go (g := (51, _, [.ref 5], _, 0, 0)) rfl ?_
        refine pm_go (g := (52, _, [.int (nI k), .ref 5], _, 0, 0)) rfl ?_
        refine pm_callD (z := 45) (as := [.ref 5, .int (nI k)]) (rest := []) rfl ?_
        refine f_X4_at (nI k) (by omega) (by first | assumption | rfl) (by omega) (fun v17_j9 h17 => ?_)
        show pm_WP 60 (55, [(2, .int (nI k)), (1, .null), (0, .ref 11)], [.ref (v17_j9 + 50)], _, 0, 0) _
        rw [nI_c (by omega)] at h17
        obtain ⟨pw19, h20, h21, h22⟩ := id h17
        refine pm_go (g := (56, [(1, .ref (v17_j9 + 50)), (2, .int (nI k)), (0, .ref 11)], [], _, 0, 0)) rfl ?_
        refine pm_go (g := (59, [(2, .int ((nI k) + 1)), (1, .ref (v17_j9 + 50)), (0, .ref 11)], [], _, 0, 0)) rfl ?_
        refine pm_go (g := (4, _, [], _, 0, 0)) rfl ?_
        refine pm_sub (lv := [(2, .int ((nI k) + 1)), (1, .ref (v17_j9 + 50)), (0, .ref 11)]) ?_ ⟨le_c (List.Mem.head _) (le_c (List.Mem.tail _ (List.Mem.head _)) (le_c (List.Mem.tail _ (List.Mem.tail _ (List.Mem.head _))) le_n)), (show ([2, 1, 0] : List Nat).Nodup by decide)⟩
        rw [nI_1]
        refine f_X6_mostSpecial_11_2 v17_j9 k q n_q f_q h17 a_q p0 p1 p2 n (k + 1) (by omega) (by omega) (by omega) ⟨by assumption, by assumption⟩ (fun j q1 q2 => ?_) k0 k1
        rcases Nat.lt_succ_iff_lt_or_eq.mp q1 with q | q
        · exact absurd q2 (g3 j q)
        · exact q
      show pm_WP 60 (38, [(2, .int (nI k)), (1, .null), (0, .ref 11)], [.int 0], _, 0, 0) _
      refine pm_brT (g := (56, [(2, .int (nI k)), (1, .null), (0, .ref 11)], [], hq g (hc1 xTc xFc xRc xVc xLr xFl) (hc2 xTn) (hc3 xPa) (hc4 xUp) (hc5 xMn xSt xAb xVa) (hc6 xAl) (hc7 xHa) (hc8 xNm) (hc9 xBy xBs) (hc10 xA1 xF1 xT1 xP1 xD1) (hc11 (.ref (q + 50)) xF2 xT2 xP2 xD2) (hc12 xTl) (hc13 xKi) (hc14 xAm) (hc15 xPl) (hc16 xCs xCo xCa) (hc17 xGo) (hc18 xOl xKn) (hc19 xKe) (hc20 xTo) (hc21 xFa) (hc22 xRe) (hc23 xVl) (hc24 xAr) c25 c26 c27 c28 c29 c30 c31 c32 c33 c34 c35 c36 c37 c38 c39 c40 c41 c42 c43 c44 c45 c46 c47 c48 c49 dyn, 0, 0)) rfl ?_
      refine pm_go (g := (59, [(2, .int ((nI k) + 1)), (1, .null), (0, .ref 11)], [], _, 0, 0)) rfl ?_
      refine pm_go (g := (4, _, [], _, 0, 0)) rfl ?_
      refine pm_sub (lv := [(2, .int ((nI k) + 1)), (1, .null), (0, .ref 11)]) ?_ ⟨le_c (List.Mem.head _) (le_c (List.Mem.tail _ (List.Mem.head _)) (le_c (List.Mem.tail _ (List.Mem.tail _ (List.Mem.head _))) le_n)), (show ([2, 1, 0] : List Nat).Nodup by decide)⟩
      rw [nI_1]
      refine ih (k + 1) (by omega) (by omega) (fun j q1 q2 => ?_) k0 k1
      rcases Nat.lt_succ_iff_lt_or_eq.mp q1 with q | q
      · exact g3 j q q2
      · subst q; first | exact absurd q2.2 (by assumption) | (simp_all; done)
    show pm_WP 60 (23, [(2, .int (nI k)), (1, .null), (0, .ref 11)], [.int 0], hq g (hc1 xTc xFc xRc xVc xLr xFl) (hc2 xTn) (hc3 xPa) (hc4 xUp) (hc5 xMn xSt xAb xVa) (hc6 xAl) (hc7 xHa) (hc8 xNm) (hc9 xBy xBs) (hc10 xA1 xF1 xT1 xP1 xD1) (hc11 (.ref (q + 50)) xF2 xT2 xP2 xD2) (hc12 xTl) (hc13 xKi) (hc14 xAm) (hc15 xPl) (hc16 xCs xCo xCa) (hc17 xGo) (hc18 xOl xKn) (hc19 xKe) (hc20 xTo) (hc21 xFa) (hc22 xRe) (hc23 xVl) (hc24 xAr) c25 c26 c27 c28 c29 c30 c31 c32 c33 c34 c35 c36 c37 c38 c39 c40 c41 c42 c43 c44 c45 c46 c47 c48 c49 dyn, 0, 0) _
    rw [hkc] at h6
    refine pm_brT (g := (56, [(2, .int (nI k)), (1, .null), (0, .ref 11)], [], hq g (hc1 xTc xFc xRc xVc xLr xFl) (hc2 xTn) (hc3 xPa) (hc4 xUp) (hc5 xMn xSt xAb xVa) (hc6 xAl) (hc7 xHa) (hc8 xNm) (hc9 xBy xBs) (hc10 xA1 xF1 xT1 xP1 xD1) (hc11 (.ref (q + 50)) xF2 xT2 xP2 xD2) (hc12 xTl) (hc13 xKi) (hc14 xAm) (hc15 xPl) (hc16 xCs xCo xCa) (hc17 xGo) (hc18 xOl xKn) (hc19 xKe) (hc20 xTo) (hc21 xFa) (hc22 xRe) (hc23 xVl) (hc24 xAr) c25 c26 c27 c28 c29 c30 c31 c32 c33 c34 c35 c36 c37 c38 c39 c40 c41 c42 c43 c44 c45 c46 c47 c48 c49 dyn, 0, 0)) rfl ?_
    refine pm_go (g := (59, [(2, .int ((nI k) + 1)), (1, .null), (0, .ref 11)], [], _, 0, 0)) rfl ?_
    refine pm_go (g := (4, _, [], _, 0, 0)) rfl ?_
    refine pm_sub (lv := [(2, .int ((nI k) + 1)), (1, .null), (0, .ref 11)]) ?_ ⟨le_c (List.Mem.head _) (le_c (List.Mem.tail _ (List.Mem.head _)) (le_c (List.Mem.tail _ (List.Mem.tail _ (List.Mem.head _))) le_n)), (show ([2, 1, 0] : List Nat).Nodup by decide)⟩
    rw [nI_1]
    refine ih (k + 1) (by omega) (by omega) (fun j q1 q2 => ?_) k0 k1
    rcases Nat.lt_succ_iff_lt_or_eq.mp q1 with q | q
    · exact g3 j q q2
    · subst q; first | exact absurd q2.2 (by assumption) | (simp_all; done)
set_option maxRecDepth 100000 in
set_option maxHeartbeats 4000000 in
theorem f_X6_mostSpecial_11 {g c25 c26 c27 c28 c29 c30 c31 c32 c33 c34 c35 c36 c37 c38 c39 c40 c41 c42 c43 c44 c45 c46 c47 c48 c49 : pm_C} {dyn : pm_H} {dOt dNa dRe dMa dMy dPm : Nat → Int32} {xTc : Int32} {xFc : Int32} {xRc : Int32} {xVc : Int32} {xLr : Int32} {xFl : Int32} {xTn : Int32} {xMn : Int32} {xSt : Int64} {xAb : Int64} {xVa : Int64} {xBy : Value} {xBs : Int32} {xA1 : Value} {xF1 : Int32} {xT1 : Int64} {xP1 : Int32} {xD1 : Value} {xF2 : Int32} {xT2 : Int64} {xP2 : Int32} {xD2 : Value} {xTl : Int32} {xCs : Int32} {xCo : Int32} {xCa : Value} {xOl : Int32} {xKn : Int32} {xPa : Nat → Int32} {xUp : Nat → Int32} {xAl : Nat → Option Nat} {xHa : Nat → Int64} {xNm : Nat → Int64} {xKi : Nat → Int32} {xAm : Nat → Int32} {xPl : Nat → Int32} {xGo : Nat → Int32} {xKe : Nat → Int32} {xTo : Nat → Int32} {xFa : Nat → Option Nat} {xRe : Nat → Option Nat} {xVl : Nat → Option Nat} {xAr : Nat → Int32} {Q : pm_Q} (q n_q : Nat) (f_q : Nat → Int32) (a_q : isAr dyn q n_q f_q) (p0 : 0 ≤ xF2.toInt ∧ xF2.toInt ≤ 1) (p1 : 0 ≤ xMn.toInt ∧ xMn.toInt ≤ 40) (p2 : alF dOt dNa dRe dMa dMy dPm xMn xAl dyn) (k0 : (¬ ∃ b : Nat, oneP (fun b => bl xT2 b = true ∧ spX xUp dMy dPm xT2 xMn ((n_q : Int) - xF2.toInt) xP2 b 0) xMn b) → Q (some (.null)) (hq g (hc1 xTc xFc xRc xVc xLr xFl) (hc2 xTn) (hc3 xPa) (hc4 xUp) (hc5 xMn xSt xAb xVa) (hc6 xAl) (hc7 xHa) (hc8 xNm) (hc9 xBy xBs) (hc10 xA1 xF1 xT1 xP1 xD1) (hc11 (.ref (q + 50)) xF2 xT2 xP2 xD2) (hc12 xTl) (hc13 xKi) (hc14 xAm) (hc15 xPl) (hc16 xCs xCo xCa) (hc17 xGo) (hc18 xOl xKn) (hc19 xKe) (hc20 xTo) (hc21 xFa) (hc22 xRe) (hc23 xVl) (hc24 xAr) c25 c26 c27 c28 c29 c30 c31 c32 c33 c34 c35 c36 c37 c38 c39 c40 c41 c42 c43 c44 c45 c46 c47 c48 c49 dyn)) (k1 : ∀ (j9 : Nat), ∀ (b9 : Nat), (mbF dOt dNa dRe dMa dMy dPm dyn j9 b9) → (oneP (fun b => bl xT2 b = true ∧ spX xUp dMy dPm xT2 xMn ((n_q : Int) - xF2.toInt) xP2 b 0) xMn b9) → Q (some (.ref (j9 + 50))) (hq g (hc1 xTc xFc xRc xVc xLr xFl) (hc2 xTn) (hc3 xPa) (hc4 xUp) (hc5 xMn xSt xAb xVa) (hc6 xAl) (hc7 xHa) (hc8 xNm) (hc9 xBy xBs) (hc10 xA1 xF1 xT1 xP1 xD1) (hc11 (.ref (q + 50)) xF2 xT2 xP2 xD2) (hc12 xTl) (hc13 xKi) (hc14 xAm) (hc15 xPl) (hc16 xCs xCo xCa) (hc17 xGo) (hc18 xOl xKn) (hc19 xKe) (hc20 xTo) (hc21 xFa) (hc22 xRe) (hc23 xVl) (hc24 xAr) c25 c26 c27 c28 c29 c30 c31 c32 c33 c34 c35 c36 c37 c38 c39 c40 c41 c42 c43 c44 c45 c46 c47 c48 c49 dyn)) : pm_WP 60 (0, [(0, .ref 11)], [], hq g (hc1 xTc xFc xRc xVc xLr xFl) (hc2 xTn) (hc3 xPa) (hc4 xUp) (hc5 xMn xSt xAb xVa) (hc6 xAl) (hc7 xHa) (hc8 xNm) (hc9 xBy xBs) (hc10 xA1 xF1 xT1 xP1 xD1) (hc11 (.ref (q + 50)) xF2 xT2 xP2 xD2) (hc12 xTl) (hc13 xKi) (hc14 xAm) (hc15 xPl) (hc16 xCs xCo xCa) (hc17 xGo) (hc18 xOl xKn) (hc19 xKe) (hc20 xTo) (hc21 xFa) (hc22 xRe) (hc23 xVl) (hc24 xAr) c25 c26 c27 c28 c29 c30 c31 c32 c33 c34 c35 c36 c37 c38 c39 c40 c41 c42 c43 c44 c45 c46 c47 c48 c49 dyn, 0, 0) Q := by
  obtain ⟨h1, h2⟩ := id a_q
  refine pm_go (g := (1, [(0, .ref 11)], [.null], hq g (hc1 xTc xFc xRc xVc xLr xFl) (hc2 xTn) (hc3 xPa) (hc4 xUp) (hc5 xMn xSt xAb xVa) (hc6 xAl) (hc7 xHa) (hc8 xNm) (hc9 xBy xBs) (hc10 xA1 xF1 xT1 xP1 xD1) (hc11 (.ref (q + 50)) xF2 xT2 xP2 xD2) (hc12 xTl) (hc13 xKi) (hc14 xAm) (hc15 xPl) (hc16 xCs xCo xCa) (hc17 xGo) (hc18 xOl xKn) (hc19 xKe) (hc20 xTo) (hc21 xFa) (hc22 xRe) (hc23 xVl) (hc24 xAr) c25 c26 c27 c28 c29 c30 c31 c32 c33 c34 c35 c36 c37 c38 c39 c40 c41 c42 c43 c44 c45 c46 c47 c48 c49 dyn, 0, 0)) rfl ?_
  refine pm_go (g := (2, [(1, .null), (0, .ref 11)], [], _, 0, 0)) rfl ?_
  refine pm_go (g := (3, _, [.int 0], _, 0, 0)) rfl ?_
  refine pm_go (g := (4, [(2, .int 0), (1, .null), (0, .ref 11)], [], _, 0, 0)) rfl ?_
  refine pm_sub (lv := [(2, .int 0), (1, .null), (0, .ref 11)]) ?_ ⟨le_c (List.Mem.head _) (le_c (List.Mem.tail _ (List.Mem.head _)) (le_c (List.Mem.tail _ (List.Mem.tail _ (List.Mem.head _))) le_n)), (show ([2, 1, 0] : List Nat).Nodup by decide)⟩
  exact f_X6_mostSpecial_11_1 q n_q f_q a_q p0 p1 p2 41 0 (by omega) (by omega) (fun j q => absurd q (by omega)) k0 k1
set_option maxRecDepth 100000 in
set_option maxHeartbeats 4000000 in
theorem f_X6_run_11_l {g c25 c26 c27 c28 c29 c30 c31 c32 c33 c34 c35 c36 c37 c38 c39 c40 c41 c42 c43 c44 c45 c46 c47 c48 c49 : pm_C} {dyn : pm_H} {dOt dNa dRe dMa dMy dPm : Nat → Int32} {xTc : Int32} {xFc : Int32} {xRc : Int32} {xVc : Int32} {xLr : Int32} {xFl : Int32} {xTn : Int32} {xMn : Int32} {xSt : Int64} {xAb : Int64} {xVa : Int64} {xBy : Value} {xBs : Int32} {xA1 : Value} {xF1 : Int32} {xT1 : Int64} {xP1 : Int32} {xD1 : Value} {xF2 : Int32} {xT2 : Int64} {xP2 : Int32} {xD2 : Value} {xTl : Int32} {xCs : Int32} {xCo : Int32} {xCa : Value} {xOl : Int32} {xKn : Int32} {xPa : Nat → Int32} {xUp : Nat → Int32} {xAl : Nat → Option Nat} {xHa : Nat → Int64} {xNm : Nat → Int64} {xKi : Nat → Int32} {xAm : Nat → Int32} {xPl : Nat → Int32} {xGo : Nat → Int32} {xKe : Nat → Int32} {xTo : Nat → Int32} {xFa : Nat → Option Nat} {xRe : Nat → Option Nat} {xVl : Nat → Option Nat} {xAr : Nat → Int32} {Q : pm_Q} (s : Int64) (q n_q : Nat) (f_q : Nat → Int32) (a_q : isAr dyn q n_q f_q) (p0 : 0 ≤ xF2.toInt ∧ xF2.toInt ≤ 1) (p1 : 0 ≤ xMn.toInt ∧ xMn.toInt ≤ 40) (p2 : alF dOt dNa dRe dMa dMy dPm xMn xAl dyn) : ∀ (n k : Nat) (t0 : Int64) (y0 : Int32), (1 ≤ k ∧ k ≤ 4) → (4 < k + n) → (rnK (fun ph x => bl s x = true ∧ fitX xUp dMa dMy dPm n_q f_q xF2 x ph) xMn t0 y0 k) → (∀ (t9 : Int64) (p9 : Int32), rnX (fun ph x => bl s x = true ∧ fitX xUp dMa dMy dPm n_q f_q xF2 x ph) xMn t9 p9 → pm_WP 53 (108, [(0, .ref 11)], [], hq g (hc1 xTc xFc xRc xVc xLr xFl) (hc2 xTn) (hc3 xPa) (hc4 xUp) (hc5 xMn xSt xAb xVa) (hc6 xAl) (hc7 xHa) (hc8 xNm) (hc9 xBy xBs) (hc10 xA1 xF1 xT1 xP1 xD1) (hc11 (.ref (q + 50)) xF2 t9 p9 xD2) (hc12 xTl) (hc13 xKi) (hc14 xAm) (hc15 xPl) (hc16 xCs xCo xCa) (hc17 xGo) (hc18 xOl xKn) (hc19 xKe) (hc20 xTo) (hc21 xFa) (hc22 xRe) (hc23 xVl) (hc24 xAr) c25 c26 c27 c28 c29 c30 c31 c32 c33 c34 c35 c36 c37 c38 c39 c40 c41 c42 c43 c44 c45 c46 c47 c48 c49 dyn, 0, 0) Q) → pm_WP 53 (79, [(7, .int (nI k)), (0, .ref 11), (5, .long s)], [], hq g (hc1 xTc xFc xRc xVc xLr xFl) (hc2 xTn) (hc3 xPa) (hc4 xUp) (hc5 xMn xSt xAb xVa) (hc6 xAl) (hc7 xHa) (hc8 xNm) (hc9 xBy xBs) (hc10 xA1 xF1 xT1 xP1 xD1) (hc11 (.ref (q + 50)) xF2 t0 y0 xD2) (hc12 xTl) (hc13 xKi) (hc14 xAm) (hc15 xPl) (hc16 xCs xCo xCa) (hc17 xGo) (hc18 xOl xKn) (hc19 xKe) (hc20 xTo) (hc21 xFa) (hc22 xRe) (hc23 xVl) (hc24 xAr) c25 c26 c27 c28 c29 c30 c31 c32 c33 c34 c35 c36 c37 c38 c39 c40 c41 c42 c43 c44 c45 c46 c47 c48 c49 dyn, 0, 0) Q := by
  intro n
  induction n with
  | zero =>
    intro k t0 y0 g1 g2 g3 k0
    exfalso; omega
  | succ n ih =>
    intro k t0 y0 g1 g2 g3 k0
    have hk := nI_toInt (n := k) (by omega)
    have hkc : (nI k).toNatClampNeg = k := nI_clamp (by omega)
    obtain ⟨h1, h2⟩ := id a_q
    refine pm_go (g := (81, [(7, .int (nI k)), (0, .ref 11), (5, .long s)], [.int (nI k)], hq g (hc1 xTc xFc xRc xVc xLr xFl) (hc2 xTn) (hc3 xPa) (hc4 xUp) (hc5 xMn xSt xAb xVa) (hc6 xAl) (hc7 xHa) (hc8 xNm) (hc9 xBy xBs) (hc10 xA1 xF1 xT1 xP1 xD1) (hc11 (.ref (q + 50)) xF2 t0 y0 xD2) (hc12 xTl) (hc13 xKi) (hc14 xAm) (hc15 xPl) (hc16 xCs xCo xCa) (hc17 xGo) (hc18 xOl xKn) (hc19 xKe) (hc20 xTo) (hc21 xFa) (hc22 xRe) (hc23 xVl) (hc24 xAr) c25 c26 c27 c28 c29 c30 c31 c32 c33 c34 c35 c36 c37 c38 c39 c40 c41 c42 c43 c44 c45 c46 c47 c48 c49 dyn, 0, 0)) rfl ?_
    refine pm_go (g := (82, _, [.int 3, .int (nI k)], _, 0, 0)) rfl ?_
    refine pm_if2 (g := (108, [(7, .int (nI k)), (0, .ref 11), (5, .long s)], [], hq g (hc1 xTc xFc xRc xVc xLr xFl) (hc2 xTn) (hc3 xPa) (hc4 xUp) (hc5 xMn xSt xAb xVa) (hc6 xAl) (hc7 xHa) (hc8 xNm) (hc9 xBy xBs) (hc10 xA1 xF1 xT1 xP1 xD1) (hc11 (.ref (q + 50)) xF2 t0 y0 xD2) (hc12 xTl) (hc13 xKi) (hc14 xAm) (hc15 xPl) (hc16 xCs xCo xCa) (hc17 xGo) (hc18 xOl xKn) (hc19 xKe) (hc20 xTo) (hc21 xFa) (hc22 xRe) (hc23 xVl) (hc24 xAr) c25 c26 c27 c28 c29 c30 c31 c32 c33 c34 c35 c36 c37 c38 c39 c40 c41 c42 c43 c44 c45 c46 c47 c48 c49 dyn, 0, 0)) (h := (85, [(7, .int (nI k)), (0, .ref 11), (5, .long s)], [], hq g (hc1 xTc xFc xRc xVc xLr xFl) (hc2 xTn) (hc3 xPa) (hc4 xUp) (hc5 xMn xSt xAb xVa) (hc6 xAl) (hc7 xHa) (hc8 xNm) (hc9 xBy xBs) (hc10 xA1 xF1 xT1 xP1 xD1) (hc11 (.ref (q + 50)) xF2 t0 y0 xD2) (hc12 xTl) (hc13 xKi) (hc14 xAm) (hc15 xPl) (hc16 xCs xCo xCa) (hc17 xGo) (hc18 xOl xKn) (hc19 xKe) (hc20 xTo) (hc21 xFa) (hc22 xRe) (hc23 xVl) (hc24 xAr) c25 c26 c27 c28 c29 c30 c31 c32 c33 c34 c35 c36 c37 c38 c39 c40 c41 c42 c43 c44 c45 c46 c47 c48 c49 dyn, 0, 0)) rfl (fun h3 => ?_) (fun h3 => ?_)
    ·
      have h3 := qT_gt (cx := (nI k).toInt) (cy := 3) rfl (by decide) h3
      refine pm_sub (lv := [(0, .ref 11)]) ?_ ⟨le_c (List.Mem.tail _ (List.Mem.head _)) le_n, (show ([7, 0, 5] : List Nat).Nodup by decide)⟩
      exact k0 _ _ (rn_e (by first | exact Or.inr (by omega) | exact Or.inl (fun q => absurd (lc0.mpr q) (by omega))) g3)
    have h3 := qF_gt (cx := (nI k).toInt) (cy := 3) rfl (by decide) h3
    refine pm_go (g := (86, _, [.ref 11], _, 0, 0)) rfl ?_
    refine pm_go (g := (89, _, [.long t0], _, 0, 0)) rfl ?_
    refine pm_go (g := (90, _, [.long 0, .long t0], _, 0, 0)) rfl ?_
    refine pm_go (g := (91, _, [.int (lg_cmp t0 0)], _, 0, 0)) rfl ?_
    refine pm_if2 (g := (108, [(7, .int (nI k)), (0, .ref 11), (5, .long s)], [], hq g (hc1 xTc xFc xRc xVc xLr xFl) (hc2 xTn) (hc3 xPa) (hc4 xUp) (hc5 xMn xSt xAb xVa) (hc6 xAl) (hc7 xHa) (hc8 xNm) (hc9 xBy xBs) (hc10 xA1 xF1 xT1 xP1 xD1) (hc11 (.ref (q + 50)) xF2 t0 y0 xD2) (hc12 xTl) (hc13 xKi) (hc14 xAm) (hc15 xPl) (hc16 xCs xCo xCa) (hc17 xGo) (hc18 xOl xKn) (hc19 xKe) (hc20 xTo) (hc21 xFa) (hc22 xRe) (hc23 xVl) (hc24 xAr) c25 c26 c27 c28 c29 c30 c31 c32 c33 c34 c35 c36 c37 c38 c39 c40 c41 c42 c43 c44 c45 c46 c47 c48 c49 dyn, 0, 0)) (h := (94, [(7, .int (nI k)), (0, .ref 11), (5, .long s)], [], hq g (hc1 xTc xFc xRc xVc xLr xFl) (hc2 xTn) (hc3 xPa) (hc4 xUp) (hc5 xMn xSt xAb xVa) (hc6 xAl) (hc7 xHa) (hc8 xNm) (hc9 xBy xBs) (hc10 xA1 xF1 xT1 xP1 xD1) (hc11 (.ref (q + 50)) xF2 t0 y0 xD2) (hc12 xTl) (hc13 xKi) (hc14 xAm) (hc15 xPl) (hc16 xCs xCo xCa) (hc17 xGo) (hc18 xOl xKn) (hc19 xKe) (hc20 xTo) (hc21 xFa) (hc22 xRe) (hc23 xVl) (hc24 xAr) c25 c26 c27 c28 c29 c30 c31 c32 c33 c34 c35 c36 c37 c38 c39 c40 c41 c42 c43 c44 c45 c46 c47 c48 c49 dyn, 0, 0)) rfl (fun h4 => ?_) (fun h4 => ?_)
    ·
      have h4 := qT_ne (cx := (lg_cmp t0 0).toInt) (cy := 0) rfl (by decide) h4
      refine pm_sub (lv := [(0, .ref 11)]) ?_ ⟨le_c (List.Mem.tail _ (List.Mem.head _)) le_n, (show ([7, 0, 5] : List Nat).Nodup by decide)⟩
      exact k0 _ _ (rn_e (by first | exact Or.inr (by omega) | exact Or.inl (fun q => absurd (lc0.mpr q) (by omega))) g3)
    have h4 := qF_ne (cx := (lg_cmp t0 0).toInt) (cy := 0) rfl (by decide) h4
    refine pm_go (g := (95, _, [.ref 11], _, 0, 0)) rfl ?_
    refine pm_go (g := (97, _, [.long s, .ref 11], _, 0, 0)) rfl ?_
    refine pm_go (g := (99, _, [.int (nI k), .long s, .ref 11], _, 0, 0)) rfl ?_
    refine pm_callD (z := 58) (as := [.ref 11, .long s, .int (nI k)]) (rest := []) rfl ?_
    refine f_X6_gatherFit_11 s (nI k) q n_q f_q ⟨h1, by omega⟩ (by omega) (by omega) (by first | assumption | rfl) (fun v5_t9 v5_p9 h5 => ?_)
    show pm_WP 53 (102, [(7, .int (nI k)), (0, .ref 11), (5, .long s)], [], _, 0, 0) _
    refine pm_go (g := (105, [(7, .int ((nI k) + 1)), (0, .ref 11), (5, .long s)], [], _, 0, 0)) rfl ?_
    refine pm_go (g := (79, _, [], _, 0, 0)) rfl ?_
    refine pm_sub (lv := [(7, .int ((nI k) + 1)), (0, .ref 11), (5, .long s)]) ?_ ⟨le_c (List.Mem.head _) (le_c (List.Mem.tail _ (List.Mem.head _)) (le_c (List.Mem.tail _ (List.Mem.tail _ (List.Mem.head _))) le_n)), (show ([7, 0, 5] : List Nat).Nodup by decide)⟩
    rw [nI_1]
    exact ih (k + 1) _ _ (by omega) (by omega) (rn_s (by omega) (by omega) (lc0.mp (by omega)) g3 h5) k0
set_option maxRecDepth 100000 in
set_option maxHeartbeats 4000000 in
theorem f_X6_run_11 {g c25 c26 c27 c28 c29 c30 c31 c32 c33 c34 c35 c36 c37 c38 c39 c40 c41 c42 c43 c44 c45 c46 c47 c48 c49 : pm_C} {dyn : pm_H} {dOt dNa dRe dMa dMy dPm : Nat → Int32} {xTc : Int32} {xFc : Int32} {xRc : Int32} {xVc : Int32} {xLr : Int32} {xFl : Int32} {xTn : Int32} {xMn : Int32} {xSt : Int64} {xAb : Int64} {xVa : Int64} {xBy : Value} {xBs : Int32} {xA1 : Value} {xF1 : Int32} {xT1 : Int64} {xP1 : Int32} {xD1 : Value} {xA2 : Value} {xF2 : Int32} {xT2 : Int64} {xP2 : Int32} {xD2 : Value} {xTl : Int32} {xCs : Int32} {xCo : Int32} {xCa : Value} {xOl : Int32} {xKn : Int32} {xPa : Nat → Int32} {xUp : Nat → Int32} {xAl : Nat → Option Nat} {xHa : Nat → Int64} {xNm : Nat → Int64} {xKi : Nat → Int32} {xAm : Nat → Int32} {xPl : Nat → Int32} {xGo : Nat → Int32} {xKe : Nat → Int32} {xTo : Nat → Int32} {xFa : Nat → Option Nat} {xRe : Nat → Option Nat} {xVl : Nat → Option Nat} {xAr : Nat → Int32} {Q : pm_Q} (t : Int32) (w : Int32) (q n_q : Nat) (f_q : Nat → Int32) (b : Int32) (a_q : isAr dyn q n_q f_q) (p0 : 0 ≤ xMn.toInt ∧ xMn.toInt ≤ 40) (p1 : alF dOt dNa dRe dMa dMy dPm xMn xAl dyn) (k0 : ∀ (f9 : Int32), ∀ (t9 : Int64), ∀ (p9 : Int32), ∀ (d9 : Value), ∀ (o9 : Option Nat), (fdF dOt dNa dRe dMa dMy dPm dyn d9 o9) → (rsX xUp dMa dMy dPm (nmX xHa xNm t w) t n_q f_q xMn b f9 t9 p9 o9) → Q none (hq g (hc1 xTc xFc xRc xVc xLr xFl) (hc2 xTn) (hc3 xPa) (hc4 xUp) (hc5 xMn xSt xAb xVa) (hc6 xAl) (hc7 xHa) (hc8 xNm) (hc9 xBy xBs) (hc10 xA1 xF1 xT1 xP1 xD1) (hc11 (.ref (q + 50)) f9 t9 p9 d9) (hc12 xTl) (hc13 xKi) (hc14 xAm) (hc15 xPl) (hc16 xCs xCo xCa) (hc17 xGo) (hc18 xOl xKn) (hc19 xKe) (hc20 xTo) (hc21 xFa) (hc22 xRe) (hc23 xVl) (hc24 xAr) c25 c26 c27 c28 c29 c30 c31 c32 c33 c34 c35 c36 c37 c38 c39 c40 c41 c42 c43 c44 c45 c46 c47 c48 c49 dyn)) : pm_WP 53 (0, [(0, .ref 11), (1, .int t), (2, .int w), (3, .ref (q + 50)), (4, .int b)], [], hq g (hc1 xTc xFc xRc xVc xLr xFl) (hc2 xTn) (hc3 xPa) (hc4 xUp) (hc5 xMn xSt xAb xVa) (hc6 xAl) (hc7 xHa) (hc8 xNm) (hc9 xBy xBs) (hc10 xA1 xF1 xT1 xP1 xD1) (hc11 xA2 xF2 xT2 xP2 xD2) (hc12 xTl) (hc13 xKi) (hc14 xAm) (hc15 xPl) (hc16 xCs xCo xCa) (hc17 xGo) (hc18 xOl xKn) (hc19 xKe) (hc20 xTo) (hc21 xFa) (hc22 xRe) (hc23 xVl) (hc24 xAr) c25 c26 c27 c28 c29 c30 c31 c32 c33 c34 c35 c36 c37 c38 c39 c40 c41 c42 c43 c44 c45 c46 c47 c48 c49 dyn, 0, 0) Q := by
  obtain ⟨h1, h2⟩ := id a_q
  refine pm_go (g := (1, [(0, .ref 11), (1, .int t), (2, .int w), (3, .ref (q + 50)), (4, .int b)], [.ref 11], hq g (hc1 xTc xFc xRc xVc xLr xFl) (hc2 xTn) (hc3 xPa) (hc4 xUp) (hc5 xMn xSt xAb xVa) (hc6 xAl) (hc7 xHa) (hc8 xNm) (hc9 xBy xBs) (hc10 xA1 xF1 xT1 xP1 xD1) (hc11 xA2 xF2 xT2 xP2 xD2) (hc12 xTl) (hc13 xKi) (hc14 xAm) (hc15 xPl) (hc16 xCs xCo xCa) (hc17 xGo) (hc18 xOl xKn) (hc19 xKe) (hc20 xTo) (hc21 xFa) (hc22 xRe) (hc23 xVl) (hc24 xAr) c25 c26 c27 c28 c29 c30 c31 c32 c33 c34 c35 c36 c37 c38 c39 c40 c41 c42 c43 c44 c45 c46 c47 c48 c49 dyn, 0, 0)) rfl ?_
  refine pm_go (g := (2, _, [.ref (q + 50), .ref 11], _, 0, 0)) rfl ?_
  refine pm_go (g := (5, _, [], hq g (hc1 xTc xFc xRc xVc xLr xFl) (hc2 xTn) (hc3 xPa) (hc4 xUp) (hc5 xMn xSt xAb xVa) (hc6 xAl) (hc7 xHa) (hc8 xNm) (hc9 xBy xBs) (hc10 xA1 xF1 xT1 xP1 xD1) (hc11 (.ref (q + 50)) xF2 xT2 xP2 xD2) (hc12 xTl) (hc13 xKi) (hc14 xAm) (hc15 xPl) (hc16 xCs xCo xCa) (hc17 xGo) (hc18 xOl xKn) (hc19 xKe) (hc20 xTo) (hc21 xFa) (hc22 xRe) (hc23 xVl) (hc24 xAr) c25 c26 c27 c28 c29 c30 c31 c32 c33 c34 c35 c36 c37 c38 c39 c40 c41 c42 c43 c44 c45 c46 c47 c48 c49 dyn, 0, 0)) rfl ?_
  refine pm_go (g := (6, _, [.ref 11], _, 0, 0)) rfl ?_
  refine pm_go (g := (8, _, [.int b, .ref 11], _, 0, 0)) rfl ?_
  refine pm_if2 (g := (15, [(0, .ref 11), (1, .int t), (2, .int w), (3, .ref (q + 50)), (4, .int b)], [.ref 11], hq g (hc1 xTc xFc xRc xVc xLr xFl) (hc2 xTn) (hc3 xPa) (hc4 xUp) (hc5 xMn xSt xAb xVa) (hc6 xAl) (hc7 xHa) (hc8 xNm) (hc9 xBy xBs) (hc10 xA1 xF1 xT1 xP1 xD1) (hc11 (.ref (q + 50)) xF2 xT2 xP2 xD2) (hc12 xTl) (hc13 xKi) (hc14 xAm) (hc15 xPl) (hc16 xCs xCo xCa) (hc17 xGo) (hc18 xOl xKn) (hc19 xKe) (hc20 xTo) (hc21 xFa) (hc22 xRe) (hc23 xVl) (hc24 xAr) c25 c26 c27 c28 c29 c30 c31 c32 c33 c34 c35 c36 c37 c38 c39 c40 c41 c42 c43 c44 c45 c46 c47 c48 c49 dyn, 0, 0)) (h := (11, [(0, .ref 11), (1, .int t), (2, .int w), (3, .ref (q + 50)), (4, .int b)], [.ref 11], hq g (hc1 xTc xFc xRc xVc xLr xFl) (hc2 xTn) (hc3 xPa) (hc4 xUp) (hc5 xMn xSt xAb xVa) (hc6 xAl) (hc7 xHa) (hc8 xNm) (hc9 xBy xBs) (hc10 xA1 xF1 xT1 xP1 xD1) (hc11 (.ref (q + 50)) xF2 xT2 xP2 xD2) (hc12 xTl) (hc13 xKi) (hc14 xAm) (hc15 xPl) (hc16 xCs xCo xCa) (hc17 xGo) (hc18 xOl xKn) (hc19 xKe) (hc20 xTo) (hc21 xFa) (hc22 xRe) (hc23 xVl) (hc24 xAr) c25 c26 c27 c28 c29 c30 c31 c32 c33 c34 c35 c36 c37 c38 c39 c40 c41 c42 c43 c44 c45 c46 c47 c48 c49 dyn, 0, 0)) rfl (fun h3 => ?_) (fun h3 => ?_)
  ·
    have h3 := qT_eq (cx := (b).toInt) (cy := 0) rfl (by decide) h3
    refine pm_go (g := (16, _, [.int 0, .ref 11], _, 0, 0)) rfl ?_
    refine pm_go (g := (19, _, [], hq g (hc1 xTc xFc xRc xVc xLr xFl) (hc2 xTn) (hc3 xPa) (hc4 xUp) (hc5 xMn xSt xAb xVa) (hc6 xAl) (hc7 xHa) (hc8 xNm) (hc9 xBy xBs) (hc10 xA1 xF1 xT1 xP1 xD1) (hc11 (.ref (q + 50)) 0 xT2 xP2 xD2) (hc12 xTl) (hc13 xKi) (hc14 xAm) (hc15 xPl) (hc16 xCs xCo xCa) (hc17 xGo) (hc18 xOl xKn) (hc19 xKe) (hc20 xTo) (hc21 xFa) (hc22 xRe) (hc23 xVl) (hc24 xAr) c25 c26 c27 c28 c29 c30 c31 c32 c33 c34 c35 c36 c37 c38 c39 c40 c41 c42 c43 c44 c45 c46 c47 c48 c49 dyn, 0, 0)) rfl ?_
    refine pm_go (g := (20, _, [.ref 11], _, 0, 0)) rfl ?_
    refine pm_go (g := (21, _, [.long 0, .ref 11], _, 0, 0)) rfl ?_
    refine pm_go (g := (24, _, [], hq g (hc1 xTc xFc xRc xVc xLr xFl) (hc2 xTn) (hc3 xPa) (hc4 xUp) (hc5 xMn xSt xAb xVa) (hc6 xAl) (hc7 xHa) (hc8 xNm) (hc9 xBy xBs) (hc10 xA1 xF1 xT1 xP1 xD1) (hc11 (.ref (q + 50)) 0 0 xP2 xD2) (hc12 xTl) (hc13 xKi) (hc14 xAm) (hc15 xPl) (hc16 xCs xCo xCa) (hc17 xGo) (hc18 xOl xKn) (hc19 xKe) (hc20 xTo) (hc21 xFa) (hc22 xRe) (hc23 xVl) (hc24 xAr) c25 c26 c27 c28 c29 c30 c31 c32 c33 c34 c35 c36 c37 c38 c39 c40 c41 c42 c43 c44 c45 c46 c47 c48 c49 dyn, 0, 0)) rfl ?_
    refine pm_go (g := (25, _, [.ref 11], _, 0, 0)) rfl ?_
    refine pm_go (g := (26, _, [.int 0, .ref 11], _, 0, 0)) rfl ?_
    refine pm_go (g := (29, _, [], hq g (hc1 xTc xFc xRc xVc xLr xFl) (hc2 xTn) (hc3 xPa) (hc4 xUp) (hc5 xMn xSt xAb xVa) (hc6 xAl) (hc7 xHa) (hc8 xNm) (hc9 xBy xBs) (hc10 xA1 xF1 xT1 xP1 xD1) (hc11 (.ref (q + 50)) 0 0 0 xD2) (hc12 xTl) (hc13 xKi) (hc14 xAm) (hc15 xPl) (hc16 xCs xCo xCa) (hc17 xGo) (hc18 xOl xKn) (hc19 xKe) (hc20 xTo) (hc21 xFa) (hc22 xRe) (hc23 xVl) (hc24 xAr) c25 c26 c27 c28 c29 c30 c31 c32 c33 c34 c35 c36 c37 c38 c39 c40 c41 c42 c43 c44 c45 c46 c47 c48 c49 dyn, 0, 0)) rfl ?_
    refine pm_go (g := (30, _, [.ref 11], _, 0, 0)) rfl ?_
    refine pm_go (g := (31, _, [.null, .ref 11], _, 0, 0)) rfl ?_
    refine pm_go (g := (34, _, [], hq g (hc1 xTc xFc xRc xVc xLr xFl) (hc2 xTn) (hc3 xPa) (hc4 xUp) (hc5 xMn xSt xAb xVa) (hc6 xAl) (hc7 xHa) (hc8 xNm) (hc9 xBy xBs) (hc10 xA1 xF1 xT1 xP1 xD1) (hc11 (.ref (q + 50)) 0 0 0 .null) (hc12 xTl) (hc13 xKi) (hc14 xAm) (hc15 xPl) (hc16 xCs xCo xCa) (hc17 xGo) (hc18 xOl xKn) (hc19 xKe) (hc20 xTo) (hc21 xFa) (hc22 xRe) (hc23 xVl) (hc24 xAr) c25 c26 c27 c28 c29 c30 c31 c32 c33 c34 c35 c36 c37 c38 c39 c40 c41 c42 c43 c44 c45 c46 c47 c48 c49 dyn, 0, 0)) rfl ?_
    refine pm_go (g := (36, _, [.int b], _, 0, 0)) rfl ?_
    refine pm_if2 (g := (65, [(0, .ref 11), (1, .int t), (2, .int w), (3, .ref (q + 50)), (4, .int b)], [], hq g (hc1 xTc xFc xRc xVc xLr xFl) (hc2 xTn) (hc3 xPa) (hc4 xUp) (hc5 xMn xSt xAb xVa) (hc6 xAl) (hc7 xHa) (hc8 xNm) (hc9 xBy xBs) (hc10 xA1 xF1 xT1 xP1 xD1) (hc11 (.ref (q + 50)) 0 0 0 .null) (hc12 xTl) (hc13 xKi) (hc14 xAm) (hc15 xPl) (hc16 xCs xCo xCa) (hc17 xGo) (hc18 xOl xKn) (hc19 xKe) (hc20 xTo) (hc21 xFa) (hc22 xRe) (hc23 xVl) (hc24 xAr) c25 c26 c27 c28 c29 c30 c31 c32 c33 c34 c35 c36 c37 c38 c39 c40 c41 c42 c43 c44 c45 c46 c47 c48 c49 dyn, 0, 0)) (h := (39, [(0, .ref 11), (1, .int t), (2, .int w), (3, .ref (q + 50)), (4, .int b)], [], hq g (hc1 xTc xFc xRc xVc xLr xFl) (hc2 xTn) (hc3 xPa) (hc4 xUp) (hc5 xMn xSt xAb xVa) (hc6 xAl) (hc7 xHa) (hc8 xNm) (hc9 xBy xBs) (hc10 xA1 xF1 xT1 xP1 xD1) (hc11 (.ref (q + 50)) 0 0 0 .null) (hc12 xTl) (hc13 xKi) (hc14 xAm) (hc15 xPl) (hc16 xCs xCo xCa) (hc17 xGo) (hc18 xOl xKn) (hc19 xKe) (hc20 xTo) (hc21 xFa) (hc22 xRe) (hc23 xVl) (hc24 xAr) c25 c26 c27 c28 c29 c30 c31 c32 c33 c34 c35 c36 c37 c38 c39 c40 c41 c42 c43 c44 c45 c46 c47 c48 c49 dyn, 0, 0)) rfl (fun h4 => ?_) (fun h4 => ?_)
    ·
      have h4 := qT_eq (cx := (b).toInt) (cy := 0) rfl (by decide) h4
      refine pm_go (g := (66, _, [.ref 11], _, 0, 0)) rfl ?_
      refine pm_go (g := (69, _, [.ref 5], _, 0, 0)) rfl ?_
      refine pm_go (g := (70, _, [.int t, .ref 5], _, 0, 0)) rfl ?_
      refine pm_go (g := (71, _, [.int w, .int t, .ref 5], _, 0, 0)) rfl ?_
      refine pm_callD (z := 42) (as := [.ref 5, .int t, .int w]) (rest := []) rfl ?_
      have h5 : (0 : Int32).toInt = 0 := by decide
      refine f_X4_namedIn t w ?_
      show pm_WP 53 (74, [(0, .ref 11), (1, .int t), (2, .int w), (3, .ref (q + 50)), (4, .int b)], [.long (nmX xHa xNm t w)], _, 0, 0) _
      refine pm_go (g := (76, [(5, .long (nmX xHa xNm t w)), (0, .ref 11), (1, .int t), (2, .int w), (3, .ref (q + 50)), (4, .int b)], [], _, 0, 0)) rfl ?_
      refine pm_go (g := (77, _, [.int 1], _, 0, 0)) rfl ?_
      refine pm_go (g := (79, [(7, .int 1), (5, .long (nmX xHa xNm t w)), (0, .ref 11), (1, .int t), (2, .int w), (3, .ref (q + 50)), (4, .int b)], [], _, 0, 0)) rfl ?_
      refine pm_sub (lv := [(7, .int 1), (0, .ref 11), (5, .long (nmX xHa xNm t w))]) ?_ ⟨le_c (List.Mem.head _) (le_c (List.Mem.tail _ (List.Mem.tail _ (List.Mem.head _))) (le_c (List.Mem.tail _ (List.Mem.head _)) le_n)), (show ([7, 5, 0, 1, 2, 3, 4] : List Nat).Nodup by decide)⟩
      have h10 : (0 : Int32).toInt = 0 := by decide
      refine f_X6_run_11_l (xF2 := 0) (xT2 := xT2) (xP2 := xP2) (nmX xHa xNm t w) q n_q f_q a_q (by decide) p0 p1 5 1 _ _ (by omega) (by omega) (Or.inl ⟨rfl, rfl, fun p q1 q2 => by omega⟩) (fun t7 y8 r9 => ?_)
      show pm_WP 53 (108, [(0, .ref 11)], [], _, 0, 0) _
      refine pm_go (g := (109, _, [.ref 11], _, 0, 0)) rfl ?_
      refine pm_go (g := (110, _, [.ref 11, .ref 11], _, 0, 0)) rfl ?_
      refine pm_callD (z := 60) (as := [.ref 11]) (rest := [.ref 11]) rfl ?_
      have h11 : (0 : Int32).toInt = 0 := by decide
      refine f_X6_mostSpecial_11 q n_q f_q ⟨h1, by omega⟩ (by omega) (by omega) (by first | assumption | rfl) (fun h12 => ?_) (fun v14_j9 v14_b9 h13 h14 => ?_)
      ·
        show pm_WP 53 (113, [(0, .ref 11)], [.null, .ref 11], _, 0, 0) _
        refine pm_go (g := (116, _, [], _, 0, 0)) rfl ?_
        have hz0 : (0 : Int32).toNatClampNeg = 0 := by decide
        exact pm_ret rfl (k0 _ _ _ .null none (Or.inl ⟨rfl, rfl⟩) (Or.inr ⟨(by rintro ⟨q1, q2 | q2⟩ <;> first | omega | contradiction), Or.inr ⟨by omega, rfl⟩, r9, Or.inr ⟨rfl, h12⟩⟩))
      show pm_WP 53 (113, [(0, .ref 11)], [.ref (v14_j9 + 50), .ref 11], hq g (hc1 xTc xFc xRc xVc xLr xFl) (hc2 xTn) (hc3 xPa) (hc4 xUp) (hc5 xMn xSt xAb xVa) (hc6 xAl) (hc7 xHa) (hc8 xNm) (hc9 xBy xBs) (hc10 xA1 xF1 xT1 xP1 xD1) (hc11 (.ref (q + 50)) 0 t7 y8 .null) (hc12 xTl) (hc13 xKi) (hc14 xAm) (hc15 xPl) (hc16 xCs xCo xCa) (hc17 xGo) (hc18 xOl xKn) (hc19 xKe) (hc20 xTo) (hc21 xFa) (hc22 xRe) (hc23 xVl) (hc24 xAr) c25 c26 c27 c28 c29 c30 c31 c32 c33 c34 c35 c36 c37 c38 c39 c40 c41 c42 c43 c44 c45 c46 c47 c48 c49 dyn, 0, 0) _
      obtain ⟨pw16, h17, h18, h19⟩ := id h13
      refine pm_go (g := (116, _, [], hq g (hc1 xTc xFc xRc xVc xLr xFl) (hc2 xTn) (hc3 xPa) (hc4 xUp) (hc5 xMn xSt xAb xVa) (hc6 xAl) (hc7 xHa) (hc8 xNm) (hc9 xBy xBs) (hc10 xA1 xF1 xT1 xP1 xD1) (hc11 (.ref (q + 50)) 0 t7 y8 (.ref (v14_j9 + 50))) (hc12 xTl) (hc13 xKi) (hc14 xAm) (hc15 xPl) (hc16 xCs xCo xCa) (hc17 xGo) (hc18 xOl xKn) (hc19 xKe) (hc20 xTo) (hc21 xFa) (hc22 xRe) (hc23 xVl) (hc24 xAr) c25 c26 c27 c28 c29 c30 c31 c32 c33 c34 c35 c36 c37 c38 c39 c40 c41 c42 c43 c44 c45 c46 c47 c48 c49 dyn, 0, 0)) rfl ?_
      have hz0 : (0 : Int32).toNatClampNeg = 0 := by decide
      exact pm_ret rfl (k0 _ _ _ _ _ (Or.inr ⟨_, _, rfl, rfl, h13⟩) (Or.inr ⟨(by rintro ⟨q1, q2 | q2⟩ <;> first | omega | contradiction), Or.inr ⟨by omega, rfl⟩, r9, Or.inl ⟨_, rfl, h14⟩⟩))
    have h4 := qF_eq (cx := (b).toInt) (cy := 0) rfl (by decide) h4
    exfalso; omega
  have h3 := qF_eq (cx := (b).toInt) (cy := 0) rfl (by decide) h3
  refine pm_go (g := (12, [(0, .ref 11), (1, .int t), (2, .int w), (3, .ref (q + 50)), (4, .int b)], [.int 1, .ref 11], hq g (hc1 xTc xFc xRc xVc xLr xFl) (hc2 xTn) (hc3 xPa) (hc4 xUp) (hc5 xMn xSt xAb xVa) (hc6 xAl) (hc7 xHa) (hc8 xNm) (hc9 xBy xBs) (hc10 xA1 xF1 xT1 xP1 xD1) (hc11 (.ref (q + 50)) xF2 xT2 xP2 xD2) (hc12 xTl) (hc13 xKi) (hc14 xAm) (hc15 xPl) (hc16 xCs xCo xCa) (hc17 xGo) (hc18 xOl xKn) (hc19 xKe) (hc20 xTo) (hc21 xFa) (hc22 xRe) (hc23 xVl) (hc24 xAr) c25 c26 c27 c28 c29 c30 c31 c32 c33 c34 c35 c36 c37 c38 c39 c40 c41 c42 c43 c44 c45 c46 c47 c48 c49 dyn, 0, 0)) rfl ?_
  refine pm_go (g := (16, _, [.int 1, .ref 11], _, 0, 0)) rfl ?_
  refine pm_go (g := (19, _, [], hq g (hc1 xTc xFc xRc xVc xLr xFl) (hc2 xTn) (hc3 xPa) (hc4 xUp) (hc5 xMn xSt xAb xVa) (hc6 xAl) (hc7 xHa) (hc8 xNm) (hc9 xBy xBs) (hc10 xA1 xF1 xT1 xP1 xD1) (hc11 (.ref (q + 50)) 1 xT2 xP2 xD2) (hc12 xTl) (hc13 xKi) (hc14 xAm) (hc15 xPl) (hc16 xCs xCo xCa) (hc17 xGo) (hc18 xOl xKn) (hc19 xKe) (hc20 xTo) (hc21 xFa) (hc22 xRe) (hc23 xVl) (hc24 xAr) c25 c26 c27 c28 c29 c30 c31 c32 c33 c34 c35 c36 c37 c38 c39 c40 c41 c42 c43 c44 c45 c46 c47 c48 c49 dyn, 0, 0)) rfl ?_
  refine pm_go (g := (20, _, [.ref 11], _, 0, 0)) rfl ?_
  refine pm_go (g := (21, _, [.long 0, .ref 11], _, 0, 0)) rfl ?_
  refine pm_go (g := (24, _, [], hq g (hc1 xTc xFc xRc xVc xLr xFl) (hc2 xTn) (hc3 xPa) (hc4 xUp) (hc5 xMn xSt xAb xVa) (hc6 xAl) (hc7 xHa) (hc8 xNm) (hc9 xBy xBs) (hc10 xA1 xF1 xT1 xP1 xD1) (hc11 (.ref (q + 50)) 1 0 xP2 xD2) (hc12 xTl) (hc13 xKi) (hc14 xAm) (hc15 xPl) (hc16 xCs xCo xCa) (hc17 xGo) (hc18 xOl xKn) (hc19 xKe) (hc20 xTo) (hc21 xFa) (hc22 xRe) (hc23 xVl) (hc24 xAr) c25 c26 c27 c28 c29 c30 c31 c32 c33 c34 c35 c36 c37 c38 c39 c40 c41 c42 c43 c44 c45 c46 c47 c48 c49 dyn, 0, 0)) rfl ?_
  refine pm_go (g := (25, _, [.ref 11], _, 0, 0)) rfl ?_
  refine pm_go (g := (26, _, [.int 0, .ref 11], _, 0, 0)) rfl ?_
  refine pm_go (g := (29, _, [], hq g (hc1 xTc xFc xRc xVc xLr xFl) (hc2 xTn) (hc3 xPa) (hc4 xUp) (hc5 xMn xSt xAb xVa) (hc6 xAl) (hc7 xHa) (hc8 xNm) (hc9 xBy xBs) (hc10 xA1 xF1 xT1 xP1 xD1) (hc11 (.ref (q + 50)) 1 0 0 xD2) (hc12 xTl) (hc13 xKi) (hc14 xAm) (hc15 xPl) (hc16 xCs xCo xCa) (hc17 xGo) (hc18 xOl xKn) (hc19 xKe) (hc20 xTo) (hc21 xFa) (hc22 xRe) (hc23 xVl) (hc24 xAr) c25 c26 c27 c28 c29 c30 c31 c32 c33 c34 c35 c36 c37 c38 c39 c40 c41 c42 c43 c44 c45 c46 c47 c48 c49 dyn, 0, 0)) rfl ?_
  refine pm_go (g := (30, _, [.ref 11], _, 0, 0)) rfl ?_
  refine pm_go (g := (31, _, [.null, .ref 11], _, 0, 0)) rfl ?_
  refine pm_go (g := (34, _, [], hq g (hc1 xTc xFc xRc xVc xLr xFl) (hc2 xTn) (hc3 xPa) (hc4 xUp) (hc5 xMn xSt xAb xVa) (hc6 xAl) (hc7 xHa) (hc8 xNm) (hc9 xBy xBs) (hc10 xA1 xF1 xT1 xP1 xD1) (hc11 (.ref (q + 50)) 1 0 0 .null) (hc12 xTl) (hc13 xKi) (hc14 xAm) (hc15 xPl) (hc16 xCs xCo xCa) (hc17 xGo) (hc18 xOl xKn) (hc19 xKe) (hc20 xTo) (hc21 xFa) (hc22 xRe) (hc23 xVl) (hc24 xAr) c25 c26 c27 c28 c29 c30 c31 c32 c33 c34 c35 c36 c37 c38 c39 c40 c41 c42 c43 c44 c45 c46 c47 c48 c49 dyn, 0, 0)) rfl ?_
  refine pm_go (g := (36, _, [.int b], _, 0, 0)) rfl ?_
  refine pm_if2 (g := (65, [(0, .ref 11), (1, .int t), (2, .int w), (3, .ref (q + 50)), (4, .int b)], [], hq g (hc1 xTc xFc xRc xVc xLr xFl) (hc2 xTn) (hc3 xPa) (hc4 xUp) (hc5 xMn xSt xAb xVa) (hc6 xAl) (hc7 xHa) (hc8 xNm) (hc9 xBy xBs) (hc10 xA1 xF1 xT1 xP1 xD1) (hc11 (.ref (q + 50)) 1 0 0 .null) (hc12 xTl) (hc13 xKi) (hc14 xAm) (hc15 xPl) (hc16 xCs xCo xCa) (hc17 xGo) (hc18 xOl xKn) (hc19 xKe) (hc20 xTo) (hc21 xFa) (hc22 xRe) (hc23 xVl) (hc24 xAr) c25 c26 c27 c28 c29 c30 c31 c32 c33 c34 c35 c36 c37 c38 c39 c40 c41 c42 c43 c44 c45 c46 c47 c48 c49 dyn, 0, 0)) (h := (39, [(0, .ref 11), (1, .int t), (2, .int w), (3, .ref (q + 50)), (4, .int b)], [], hq g (hc1 xTc xFc xRc xVc xLr xFl) (hc2 xTn) (hc3 xPa) (hc4 xUp) (hc5 xMn xSt xAb xVa) (hc6 xAl) (hc7 xHa) (hc8 xNm) (hc9 xBy xBs) (hc10 xA1 xF1 xT1 xP1 xD1) (hc11 (.ref (q + 50)) 1 0 0 .null) (hc12 xTl) (hc13 xKi) (hc14 xAm) (hc15 xPl) (hc16 xCs xCo xCa) (hc17 xGo) (hc18 xOl xKn) (hc19 xKe) (hc20 xTo) (hc21 xFa) (hc22 xRe) (hc23 xVl) (hc24 xAr) c25 c26 c27 c28 c29 c30 c31 c32 c33 c34 c35 c36 c37 c38 c39 c40 c41 c42 c43 c44 c45 c46 c47 c48 c49 dyn, 0, 0)) rfl (fun h20 => ?_) (fun h20 => ?_)
  ·
    have h20 := qT_eq (cx := (b).toInt) (cy := 0) rfl (by decide) h20
    exfalso; omega
  have h20 := qF_eq (cx := (b).toInt) (cy := 0) rfl (by decide) h20
  refine pm_go (g := (40, _, [.ref 11], _, 0, 0)) rfl ?_
  refine pm_go (g := (43, _, [.ref (q + 50)], _, 0, 0)) rfl ?_
  refine pm_alD rfl (hq_at.trans h1) ?_
  show pm_WP 53 (44, [(0, .ref 11), (1, .int t), (2, .int w), (3, .ref (q + 50)), (4, .int b)], [.int (nI n_q)], hq g (hc1 xTc xFc xRc xVc xLr xFl) (hc2 xTn) (hc3 xPa) (hc4 xUp) (hc5 xMn xSt xAb xVa) (hc6 xAl) (hc7 xHa) (hc8 xNm) (hc9 xBy xBs) (hc10 xA1 xF1 xT1 xP1 xD1) (hc11 (.ref (q + 50)) 1 0 0 .null) (hc12 xTl) (hc13 xKi) (hc14 xAm) (hc15 xPl) (hc16 xCs xCo xCa) (hc17 xGo) (hc18 xOl xKn) (hc19 xKe) (hc20 xTo) (hc21 xFa) (hc22 xRe) (hc23 xVl) (hc24 xAr) c25 c26 c27 c28 c29 c30 c31 c32 c33 c34 c35 c36 c37 c38 c39 c40 c41 c42 c43 c44 c45 c46 c47 c48 c49 dyn, 0, 0) _
  have h21 := nI_toInt (n := n_q) (by omega)
  refine pm_if2 (g := (64, [(0, .ref 11), (1, .int t), (2, .int w), (3, .ref (q + 50)), (4, .int b)], [], hq g (hc1 xTc xFc xRc xVc xLr xFl) (hc2 xTn) (hc3 xPa) (hc4 xUp) (hc5 xMn xSt xAb xVa) (hc6 xAl) (hc7 xHa) (hc8 xNm) (hc9 xBy xBs) (hc10 xA1 xF1 xT1 xP1 xD1) (hc11 (.ref (q + 50)) 1 0 0 .null) (hc12 xTl) (hc13 xKi) (hc14 xAm) (hc15 xPl) (hc16 xCs xCo xCa) (hc17 xGo) (hc18 xOl xKn) (hc19 xKe) (hc20 xTo) (hc21 xFa) (hc22 xRe) (hc23 xVl) (hc24 xAr) c25 c26 c27 c28 c29 c30 c31 c32 c33 c34 c35 c36 c37 c38 c39 c40 c41 c42 c43 c44 c45 c46 c47 c48 c49 dyn, 0, 0)) (h := (47, [(0, .ref 11), (1, .int t), (2, .int w), (3, .ref (q + 50)), (4, .int b)], [], hq g (hc1 xTc xFc xRc xVc xLr xFl) (hc2 xTn) (hc3 xPa) (hc4 xUp) (hc5 xMn xSt xAb xVa) (hc6 xAl) (hc7 xHa) (hc8 xNm) (hc9 xBy xBs) (hc10 xA1 xF1 xT1 xP1 xD1) (hc11 (.ref (q + 50)) 1 0 0 .null) (hc12 xTl) (hc13 xKi) (hc14 xAm) (hc15 xPl) (hc16 xCs xCo xCa) (hc17 xGo) (hc18 xOl xKn) (hc19 xKe) (hc20 xTo) (hc21 xFa) (hc22 xRe) (hc23 xVl) (hc24 xAr) c25 c26 c27 c28 c29 c30 c31 c32 c33 c34 c35 c36 c37 c38 c39 c40 c41 c42 c43 c44 c45 c46 c47 c48 c49 dyn, 0, 0)) rfl (fun h22 => ?_) (fun h22 => ?_)
  ·
    have h22 := qT_eq (cx := (nI n_q).toInt) (cy := 0) rfl (by decide) h22
    have hz0 : (0 : Int32).toNatClampNeg = 0 := by decide
    first | exact pm_ret rfl (k0 1 0 0 .null none (Or.inl ⟨rfl, rfl⟩) (Or.inl ⟨⟨by omega, Or.inl (by omega)⟩, rfl, rfl, rfl, rfl⟩))
  have h22 := qF_eq (cx := (nI n_q).toInt) (cy := 0) rfl (by decide) h22
  refine pm_go (g := (48, _, [.ref 11], _, 0, 0)) rfl ?_
  refine pm_go (g := (51, _, [.ref 2], _, 0, 0)) rfl ?_
  refine pm_go (g := (52, _, [.ref 11, .ref 2], _, 0, 0)) rfl ?_
  refine pm_go (g := (55, _, [.ref (q + 50), .ref 2], _, 0, 0)) rfl ?_
  refine pm_go (g := (56, _, [.int 0, .ref (q + 50), .ref 2], _, 0, 0)) rfl ?_
  have h23 : (0 : Int32).toInt = 0 := by decide
  refine pm_iaD rfl (hq_at.trans h1) (pm_inI (by omega) (by omega)) ?_
  show pm_WP 53 (57, [(0, .ref 11), (1, .int t), (2, .int w), (3, .ref (q + 50)), (4, .int b)], [.int (f_q (0 : Int32).toNatClampNeg), .ref 2], hq g (hc1 xTc xFc xRc xVc xLr xFl) (hc2 xTn) (hc3 xPa) (hc4 xUp) (hc5 xMn xSt xAb xVa) (hc6 xAl) (hc7 xHa) (hc8 xNm) (hc9 xBy xBs) (hc10 xA1 xF1 xT1 xP1 xD1) (hc11 (.ref (q + 50)) 1 0 0 .null) (hc12 xTl) (hc13 xKi) (hc14 xAm) (hc15 xPl) (hc16 xCs xCo xCa) (hc17 xGo) (hc18 xOl xKn) (hc19 xKe) (hc20 xTo) (hc21 xFa) (hc22 xRe) (hc23 xVl) (hc24 xAr) c25 c26 c27 c28 c29 c30 c31 c32 c33 c34 c35 c36 c37 c38 c39 c40 c41 c42 c43 c44 c45 c46 c47 c48 c49 dyn, 0, 0) _
  refine pm_go (g := (58, _, [.int t, .int (f_q (0 : Int32).toNatClampNeg), .ref 2], _, 0, 0)) rfl ?_
  refine pm_callD (z := 87) (as := [.ref 2, .int (f_q (0 : Int32).toNatClampNeg), .int t]) (rest := []) rfl ?_
  have h24 : (0 : Int32).toInt = 0 := by decide
  have h25 : (1 : Int32).toInt = 1 := by decide
  refine f_X9_isUnder (f_q (0 : Int32).toNatClampNeg) t (fun h26 => ?_) (fun h27 => ?_)
  ·
    show pm_WP 53 (61, [(0, .ref 11), (1, .int t), (2, .int w), (3, .ref (q + 50)), (4, .int b)], [.int 1], _, 0, 0) _
    refine pm_brT (g := (65, [(0, .ref 11), (1, .int t), (2, .int w), (3, .ref (q + 50)), (4, .int b)], [], hq g (hc1 xTc xFc xRc xVc xLr xFl) (hc2 xTn) (hc3 xPa) (hc4 xUp) (hc5 xMn xSt xAb xVa) (hc6 xAl) (hc7 xHa) (hc8 xNm) (hc9 xBy xBs) (hc10 xA1 xF1 xT1 xP1 xD1) (hc11 (.ref (q + 50)) 1 0 0 .null) (hc12 xTl) (hc13 xKi) (hc14 xAm) (hc15 xPl) (hc16 xCs xCo xCa) (hc17 xGo) (hc18 xOl xKn) (hc19 xKe) (hc20 xTo) (hc21 xFa) (hc22 xRe) (hc23 xVl) (hc24 xAr) c25 c26 c27 c28 c29 c30 c31 c32 c33 c34 c35 c36 c37 c38 c39 c40 c41 c42 c43 c44 c45 c46 c47 c48 c49 dyn, 0, 0)) rfl ?_
    refine pm_go (g := (66, _, [.ref 11], _, 0, 0)) rfl ?_
    refine pm_go (g := (69, _, [.ref 5], _, 0, 0)) rfl ?_
    refine pm_go (g := (70, _, [.int t, .ref 5], _, 0, 0)) rfl ?_
    refine pm_go (g := (71, _, [.int w, .int t, .ref 5], _, 0, 0)) rfl ?_
    refine pm_callD (z := 42) (as := [.ref 5, .int t, .int w]) (rest := []) rfl ?_
    have h29 : (0 : Int32).toInt = 0 := by decide
    have h30 : (1 : Int32).toInt = 1 := by decide
    refine f_X4_namedIn t w ?_
    show pm_WP 53 (74, [(0, .ref 11), (1, .int t), (2, .int w), (3, .ref (q + 50)), (4, .int b)], [.long (nmX xHa xNm t w)], _, 0, 0) _
    refine pm_go (g := (76, [(5, .long (nmX xHa xNm t w)), (0, .ref 11), (1, .int t), (2, .int w), (3, .ref (q + 50)), (4, .int b)], [], _, 0, 0)) rfl ?_
    refine pm_go (g := (77, _, [.int 1], _, 0, 0)) rfl ?_
    refine pm_go (g := (79, [(7, .int 1), (5, .long (nmX xHa xNm t w)), (0, .ref 11), (1, .int t), (2, .int w), (3, .ref (q + 50)), (4, .int b)], [], _, 0, 0)) rfl ?_
    refine pm_sub (lv := [(7, .int 1), (0, .ref 11), (5, .long (nmX xHa xNm t w))]) ?_ ⟨le_c (List.Mem.head _) (le_c (List.Mem.tail _ (List.Mem.tail _ (List.Mem.head _))) (le_c (List.Mem.tail _ (List.Mem.head _)) le_n)), (show ([7, 5, 0, 1, 2, 3, 4] : List Nat).Nodup by decide)⟩
    have h35 : (1 : Int32).toInt = 1 := by decide
    refine f_X6_run_11_l (xF2 := 1) (xT2 := xT2) (xP2 := xP2) (nmX xHa xNm t w) q n_q f_q a_q (by decide) p0 p1 5 1 _ _ (by omega) (by omega) (Or.inl ⟨rfl, rfl, fun p q1 q2 => by omega⟩) (fun t32 y33 r34 => ?_)
    show pm_WP 53 (108, [(0, .ref 11)], [], _, 0, 0) _
    refine pm_go (g := (109, _, [.ref 11], _, 0, 0)) rfl ?_
    refine pm_go (g := (110, _, [.ref 11, .ref 11], _, 0, 0)) rfl ?_
    refine pm_callD (z := 60) (as := [.ref 11]) (rest := [.ref 11]) rfl ?_
    have h36 : (1 : Int32).toInt = 1 := by decide
    refine f_X6_mostSpecial_11 q n_q f_q ⟨h1, by omega⟩ (by omega) (by omega) (by first | assumption | rfl) (fun h37 => ?_) (fun v39_j9 v39_b9 h38 h39 => ?_)
    ·
      show pm_WP 53 (113, [(0, .ref 11)], [.null, .ref 11], _, 0, 0) _
      refine pm_go (g := (116, _, [], _, 0, 0)) rfl ?_
      have hz0 : (0 : Int32).toNatClampNeg = 0 := by decide
      rw [hz0] at h26
      exact pm_ret rfl (k0 _ _ _ .null none (Or.inl ⟨rfl, rfl⟩) (Or.inr ⟨(by rintro ⟨q1, q2 | q2⟩ <;> first | omega | contradiction), Or.inl ⟨by omega, rfl⟩, r34, Or.inr ⟨rfl, h37⟩⟩))
    show pm_WP 53 (113, [(0, .ref 11)], [.ref (v39_j9 + 50), .ref 11], hq g (hc1 xTc xFc xRc xVc xLr xFl) (hc2 xTn) (hc3 xPa) (hc4 xUp) (hc5 xMn xSt xAb xVa) (hc6 xAl) (hc7 xHa) (hc8 xNm) (hc9 xBy xBs) (hc10 xA1 xF1 xT1 xP1 xD1) (hc11 (.ref (q + 50)) 1 t32 y33 .null) (hc12 xTl) (hc13 xKi) (hc14 xAm) (hc15 xPl) (hc16 xCs xCo xCa) (hc17 xGo) (hc18 xOl xKn) (hc19 xKe) (hc20 xTo) (hc21 xFa) (hc22 xRe) (hc23 xVl) (hc24 xAr) c25 c26 c27 c28 c29 c30 c31 c32 c33 c34 c35 c36 c37 c38 c39 c40 c41 c42 c43 c44 c45 c46 c47 c48 c49 dyn, 0, 0) _
    obtain ⟨pw41, h42, h43, h44⟩ := id h38
    refine pm_go (g := (116, _, [], hq g (hc1 xTc xFc xRc xVc xLr xFl) (hc2 xTn) (hc3 xPa) (hc4 xUp) (hc5 xMn xSt xAb xVa) (hc6 xAl) (hc7 xHa) (hc8 xNm) (hc9 xBy xBs) (hc10 xA1 xF1 xT1 xP1 xD1) (hc11 (.ref (q + 50)) 1 t32 y33 (.ref (v39_j9 + 50))) (hc12 xTl) (hc13 xKi) (hc14 xAm) (hc15 xPl) (hc16 xCs xCo xCa) (hc17 xGo) (hc18 xOl xKn) (hc19 xKe) (hc20 xTo) (hc21 xFa) (hc22 xRe) (hc23 xVl) (hc24 xAr) c25 c26 c27 c28 c29 c30 c31 c32 c33 c34 c35 c36 c37 c38 c39 c40 c41 c42 c43 c44 c45 c46 c47 c48 c49 dyn, 0, 0)) rfl ?_
    have hz0 : (0 : Int32).toNatClampNeg = 0 := by decide
    rw [hz0] at h26
    exact pm_ret rfl (k0 _ _ _ _ _ (Or.inr ⟨_, _, rfl, rfl, h38⟩) (Or.inr ⟨(by rintro ⟨q1, q2 | q2⟩ <;> first | omega | contradiction), Or.inl ⟨by omega, rfl⟩, r34, Or.inl ⟨_, rfl, h39⟩⟩))
  show pm_WP 53 (61, [(0, .ref 11), (1, .int t), (2, .int w), (3, .ref (q + 50)), (4, .int b)], [.int 0], hq g (hc1 xTc xFc xRc xVc xLr xFl) (hc2 xTn) (hc3 xPa) (hc4 xUp) (hc5 xMn xSt xAb xVa) (hc6 xAl) (hc7 xHa) (hc8 xNm) (hc9 xBy xBs) (hc10 xA1 xF1 xT1 xP1 xD1) (hc11 (.ref (q + 50)) 1 0 0 .null) (hc12 xTl) (hc13 xKi) (hc14 xAm) (hc15 xPl) (hc16 xCs xCo xCa) (hc17 xGo) (hc18 xOl xKn) (hc19 xKe) (hc20 xTo) (hc21 xFa) (hc22 xRe) (hc23 xVl) (hc24 xAr) c25 c26 c27 c28 c29 c30 c31 c32 c33 c34 c35 c36 c37 c38 c39 c40 c41 c42 c43 c44 c45 c46 c47 c48 c49 dyn, 0, 0) _
  refine pm_brF (h := (64, [(0, .ref 11), (1, .int t), (2, .int w), (3, .ref (q + 50)), (4, .int b)], [], hq g (hc1 xTc xFc xRc xVc xLr xFl) (hc2 xTn) (hc3 xPa) (hc4 xUp) (hc5 xMn xSt xAb xVa) (hc6 xAl) (hc7 xHa) (hc8 xNm) (hc9 xBy xBs) (hc10 xA1 xF1 xT1 xP1 xD1) (hc11 (.ref (q + 50)) 1 0 0 .null) (hc12 xTl) (hc13 xKi) (hc14 xAm) (hc15 xPl) (hc16 xCs xCo xCa) (hc17 xGo) (hc18 xOl xKn) (hc19 xKe) (hc20 xTo) (hc21 xFa) (hc22 xRe) (hc23 xVl) (hc24 xAr) c25 c26 c27 c28 c29 c30 c31 c32 c33 c34 c35 c36 c37 c38 c39 c40 c41 c42 c43 c44 c45 c46 c47 c48 c49 dyn, 0, 0)) rfl ?_
  have hz0 : (0 : Int32).toNatClampNeg = 0 := by decide
  first | exact pm_ret rfl (k0 1 0 0 .null none (Or.inl ⟨rfl, rfl⟩) (Or.inl ⟨⟨by omega, Or.inl (by omega)⟩, rfl, rfl, rfl, rfl⟩)) | (rw [hz0] at h27; exact pm_ret rfl (k0 1 0 0 .null none (Or.inl ⟨rfl, rfl⟩) (Or.inl ⟨⟨by omega, Or.inr h27⟩, rfl, rfl, rfl, rfl⟩)))
