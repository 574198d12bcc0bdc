/-! one call -/
theorem gp_le {ar fa pm : Nat → Int32} {m f s : Int32} {z y : cs_T} {j : Nat} {g : Int32} (h : gtP ar fa pm m f s z y j g) (hb : (pm (3 * m + nI j).toNatClampNeg).toInt ≠ 10) (ha : (fa (3 * f + s + nI j).toNatClampNeg).toInt ≠ 10 → (ar (s + nI j).toNatClampNeg).toInt = 0 ∨ (1 ≤ (ar (s + nI j).toNatClampNeg).toInt ∧ (ar (s + nI j).toNatClampNeg).toInt ≤ z.1.toInt)) : 0 ≤ g.toInt ∧ g.toInt ≤ y.1.toInt := by
  obtain ⟨zj, j0, j1, j2, j3⟩ := h
  have hz := j0
  unfold tnB at hz
  have k1 := j1.1
  have k2 := j2.1
  by_cases e : (fa (3 * f + s + nI j).toNatClampNeg).toInt = 10
  · rw [tu_1 ⟨e, hb⟩] at j3 k2
    have hm := md_x (t := 1) (v := ar (s + nI j).toNatClampNeg) j0
    have hi := md_i (t := 1) (v := ar (s + nI j).toNatClampNeg) j0
    have hb2 := hm.2.1
    unfold tnB at hb2
    have hb3 := hm.2.2
    rw [j3]
    refine ⟨hb3.1, ?_⟩
    rcases Classical.em ((mdF 1 (ar (s + nI j).toNatClampNeg) zj).1.toInt = 0) with q | q
    · omega
    · rw [(hi q).2.2]; exact k2
  · rw [tu_5 (by omega) (by omega)] at j3 k2
    dsimp only at j3 k2
    have := ha e
    rw [j3]
    omega
theorem gv_le {ar fa fy my pm : Nat → Int32} {m f s p : Int32} {x : (Nat → Int32) × cs_T} {n : Nat} (hz : tnB x.2) (hn : (my m.toNatClampNeg).toInt = (n : Int)) (hn3 : n ≤ 3) (h1 : p.toInt = 3 → 1 ≤ n) (hA : ∀ j : Nat, j < n → (p.toInt = 3 → j < n - 1) → (fa (3 * f + s + nI j).toNatClampNeg).toInt ≠ 10 → (ar (s + nI j).toNatClampNeg).toInt = 0 ∨ (1 ≤ (ar (s + nI j).toNatClampNeg).toInt ∧ (ar (s + nI j).toNatClampNeg).toInt ≤ x.2.1.toInt)) {j : Nat} (hj : j < n) (hb : (pm (3 * m + nI j).toNatClampNeg).toInt ≠ 10) : 0 ≤ ((gvF ar fa fy my pm m f s p x).1 j).toInt ∧ ((gvF ar fa fy my pm m f s p x).1 j).toInt ≤ (gvF ar fa fy my pm m f s p x).2.1.toInt := by
  unfold gvF
  by_cases h3 : p.toInt = 3
  · rw [if_neg (by omega)]
    dsimp only
    have w1 := h1 h3
    have hm1 : (my m.toNatClampNeg - 1).toInt = (n : Int) - 1 := by rw [iSub (x := (my m.toNatClampNeg).toInt) (y := 1) rfl (by decide) (by omega) (by omega)]; omega
    have hm1N : (my m.toNatClampNeg - 1).toNatClampNeg = n - 1 := tN (by omega)
    rw [hm1N]
    have gb := g1_x (ar := ar) (fa := fa) (pm := pm) (m := m) (f := f) (s := s) (n - 1) 0 x hz
    generalize gv1 ar fa pm m f s (n - 1) 0 x = B at *
    generalize hkd : pm (3 * m + (my m.toNatClampNeg - 1)).toNatClampNeg = kd at *
    generalize fy f.toNatClampNeg - s - (my m.toNatClampNeg - 1) = am at *
    have mb := md_x (t := kd) (v := am) gb.2.1
    have mi := md_i (t := kd) (v := am) gb.2.1
    generalize mdF kd am B.2 = C at *
    have g2 := g2_x (ar := ar) (fa := fa) (my := my) (pm := pm) (m := m) (f := f) (s := s) (pn := my m.toNatClampNeg - 1) (row := C.1) ((fy f.toNatClampNeg - s).toNatClampNeg - (n - 1)) (n - 1) C.2 mb.2.1
    generalize gv2 ar fa my pm m f s (my m.toNatClampNeg - 1) C.1 ((fy f.toNatClampNeg - s).toNatClampNeg - (n - 1)) (n - 1) C.2 = D at *
    have k1 := mb.1.1
    have k2 := g2.1.1
    have k3 := g2.2
    unfold tnB at k3
    by_cases e : j = n - 1
    · rw [e, updS]
      refine ⟨mb.2.2.1, ?_⟩
      rcases Classical.em (C.1.toInt = 0) with q | q
      · omega
      · rw [(mi q).2.2]; exact k2
    · rw [updN e]
      have := gp_le (gb.2.2.2 j (Nat.zero_le j) (by omega)) hb (hA j hj (fun _ => by omega))
      omega
  · rw [if_pos h3, tN hn]
    have gb := g1_x (ar := ar) (fa := fa) (pm := pm) (m := m) (f := f) (s := s) n 0 x hz
    exact gp_le (gb.2.2.2 j (Nat.zero_le j) (by omega)) hb (hA j hj (fun w => absurd w h3))
theorem grX_c {re n S : Int32} {op oq : Prop} {z : cs_T} {x : Int32 × cs_T} (ho : re.toInt ≠ 11 → re.toInt ≠ 10 → re.toInt ≠ 1 → re.toInt < 20 → (op ↔ oq)) (h : grX re n op S z x) : grX re n oq S z x := by
  rcases h with h | h | h | h | ⟨h1, ⟨h2, h3⟩ | ⟨h2, h3⟩⟩
  · exact Or.inl h
  · exact Or.inr (Or.inl h)
  · exact Or.inr (Or.inr (Or.inl h))
  · exact Or.inr (Or.inr (Or.inr (Or.inl h)))
  · exact Or.inr (Or.inr (Or.inr (Or.inr ⟨h1, Or.inl ⟨(ho h1.1 h1.2.1 h1.2.2.1 h1.2.2.2).mp h2, h3⟩⟩)))
  · exact Or.inr (Or.inr (Or.inr (Or.inr ⟨h1, Or.inr ⟨fun w => h2 ((ho h1.1 h1.2.1 h1.2.2.1 h1.2.2.2).mpr w), h3⟩⟩)))
/-- the kinds of things -/
def kdT (ty x : Int32) : Prop := (0 ≤ x.toInt ∧ x.toInt < ty.toInt) ∨ (20 ≤ x.toInt ∧ anyT ty x)
theorem kd_any {ty x : Int32} (h : kdT ty x) : anyT ty x := by
  rcases h with h | h
  · unfold anyT; omega
  · exact h.2
theorem lM_10 {pa : Nat → Int32} (hd : paD pa) {a b : Int32} (hb : b.toInt = 10) (h : lM pa a b) : a.toInt = 10 ∨ a.toInt = 1 := by
  rcases h with h | ⟨h, _⟩ | ⟨h, _⟩
  · have := uM_30 hd (Or.inr hb) h
    rw [this]; exact Or.inl hb
  · exact Or.inl h
  · exact Or.inr h
theorem gv_b {ar fa fy my pm : Nat → Int32} {m f s p : Int32} {x : (Nat → Int32) × cs_T} (hz : tnB x.2) : tnB (gvF ar fa fy my pm m f s p x).2 := by
  unfold gvF
  split
  · exact (g1_x _ 0 x hz).2.1
  · dsimp only
    exact (g2_x _ _ _ (md_x (g1_x _ 0 x hz).2.1).2.1).2
theorem md_0 {t v : Int32} {z : cs_T} (hz : tnB z) (w : (mdF t v z).2.2.1.toInt = 0) : 1 ≤ (mdF t v z).1.toInt ∧ (mdF t v z).1.toInt ≤ (mdF t v z).2.1.toInt := by
  have hb0 := hz
  unfold tnB at hb0
  have k1 : 1 ≤ (mdF t v z).1.toInt := by
    unfold mdF at w ⊢
    split
    · next e1 => rw [if_pos e1] at w; exact absurd w e1
    · next e1 =>
      rw [if_neg e1] at w
      split
      · next e2 => rw [if_pos e2] at w; exact absurd (show (-2 : Int32).toInt = 0 from w) (by decide)
      · show 1 ≤ (z.1 + 1).toInt
        rw [iAdd (x := z.1.toInt) (y := 1) rfl (by decide) (by omega) (by omega)]
        omega
  exact ⟨k1, by rw [(md_i hz (by omega)).2.2]; exact Int.le_refl _⟩
/-- a maker is called where it is meant -/
theorem mk_re {pa ot na re my pm ma fa fy fr tt : Nat → Int32} {ty mn fo t w f sc mp a0 vc e0 : Int32} {c b : Nat} (hty : ty.toInt ≤ 10) (hmn : mn.toInt ≤ 40) (hB : mbD ot na re mn) (hf : rfR ty fo t w) (h1t : ∀ j : Nat, (j : Int) < mn.toInt → (ot j).toInt ≠ 1) (hw : wmM pa ot na re my pm ma fa fy fr mn fo t w f sc mp (nI c)) (hc : (c : Int) < mn.toInt) (hb : (b : Int) < mn.toInt) (hru : ruM pa ot na my pm tt mn fo sc a0 vc (nI c) e0 (nI b)) (hna : na b = na c) (h6 : (na b).toInt = 6) : ¬ opL pa ot na my pm ma mn (re b) 0 ∧ (re b).toInt ≠ 1 ∧ (re b).toInt < 10 := by
  have hnc : (nI c).toInt = (c : Int) := nI_toInt (by omega)
  have hnb : (nI b).toInt = (b : Int) := nI_toInt (by omega)
  have hnC : (nI c).toNatClampNeg = c := nI_c (by omega)
  have z14 : (-14 : Int32).toInt = -14 := by decide
  have z15 : (-15 : Int32).toInt = -15 := by decide
  have z6 : (6 : Int32).toInt = 6 := by decide
  obtain ⟨tS, w1, s, hT1, hT2, hT3, hT4, _, hT6, hT7, _⟩ := wm_tk hmn hw (by omega)
  rw [hnC, ← hna, h6] at hT6
  have k3 : fo.toInt = 3 := by
    rcases hT3 with ⟨q, _⟩ | ⟨q, q2⟩
    · exact q
    · rw [q2] at hT6
      have := hf.2.2.2.2 (by omega)
      omega
  have ht := hf.2.1 (by omega)
  have ksc : sc.toInt = 0 := by
    rcases hT1 with ⟨_, _, q, _⟩ | ⟨q, _⟩
    · omega
    · exact q
  have ebc : b = c := by
    rcases hru with ⟨q, _⟩ | ⟨q, _⟩ | ⟨_, q, _⟩ | ⟨_, _, _, q⟩
    · exact absurd ksc q
    · exact absurd ksc q
    · omega
    · have : (nI b).toInt = (nI c).toInt := by rw [q]
      omega
  subst ebc
  have eS : tS = t := by
    rcases hT2 with ⟨q, _⟩ | ⟨_, q⟩
    · omega
    · exact q
  subst eS
  have ecM : cM tS = tS := by unfold cM; rw [if_neg (by omega)]
  have eot : (ot b).toInt = tS.toInt := by
    unfold hadM at hT7
    rw [hnC, ecM] at hT7
    rcases hT7 with ⟨q, _⟩ | ⟨_, q, _⟩
    · exact q
    · exact absurd h6 q
  have ere : re b = tS := xJ (by rw [(hB b hc).2 h6]; exact eot)
  rw [ere]
  refine ⟨?_, by have := h1t b hc; omega, by omega⟩
  obtain ⟨r1, hm, hr⟩ := hw
  have er : r1 = nI b := by
    rcases hr with ⟨_, q⟩ | ⟨_, q⟩ | ⟨_, q⟩
    · exact q.symm
    · exact q.symm
    · exfalso
      rw [q] at hnb
      omega
  subst er
  rcases hm with ⟨q, _⟩ | ⟨q, _⟩ | ⟨q, _⟩ | ⟨_, _, ⟨_, _, q⟩ | ⟨q, _⟩ | ⟨q, _⟩⟩ | ⟨q, _⟩
  · omega
  · omega
  · omega
  · exfalso
    rw [q] at hnb
    omega
  · exact q
  · exact q
  · omega
/-- a call of a member goes the same way -/
theorem call_1 {up xpa pa ot na re ma my pm fy fa fr ar tt ti pl gox goy : Nat → Int32} {ty mn fo t w f vc tn : Int32} {ha nm : Nat → Int64} {St Ab Va : Int64} (hR : mmR up xpa pa ty ot na re ma my pm mn ha nm St Ab Va) (hF : fcR ty fy fa fr f) (hf : rfR ty fo t w) (htn : 0 ≤ tn.toInt ∧ tn.toInt ≤ 60) (hkd : ∀ i : Nat, 1 ≤ i → (i : Int) ≤ tn.toInt → kdT ty (tt i)) (h1t : ∀ j : Nat, (j : Int) < mn.toInt → (ot j).toInt ≠ 1) (hvc : fo.toInt = 1 → 1 ≤ vc.toInt ∧ vc.toInt ≤ tn.toInt) (hag : agM pa tt ar fa fy tn f 0) (hcs : caS pa ot na re my pm ma fa fy fr ar mn fo t w f vc goy tn (tt, ti, pl))
    {sc mp ip : Int32} {c : Nat} (hw : wmM pa ot na re my pm ma fa fy fr mn fo t w f sc mp (nI c)) (hc : (c : Int) < mn.toInt) (hip : ip.toInt ≠ 0 ↔ mp.toInt = 3)
    {b9 : Nat} {e9 : Int32} {g9 : Nat → Int32} {Z7 Z8 Z9 : cs_T} {m9 o9 : Int32} (hmt : mtX na my pm ha nm mn sc fo (ar 0) vc tt tn c e9 b9) (hha : (g9, Z7) = haX ar (cutF fy fa f.toNatClampNeg) (cutF my pm b9) (my b9).toNatClampNeg (fy f.toNatClampNeg).toNatClampNeg (if sc.toInt ≠ 0 then 1 else 0) ip (gox, tn, e9, tt, ti, pl)) (hgr : grX (re b9) (nI (my b9).toNatClampNeg) (hbX ha nm (re b9) &&& Ab ≠ 0) (sumX (ma b9) (my b9).toNatClampNeg (cutF my pm b9) g9 Z7 b9) Z7 (m9, Z8)) (hcv : (o9, Z9) = cvX m9 (cmM re fo t (nI c)) (fr f.toNatClampNeg) Z8)
    {rn wh cm w9 : Int32} {gg : Nat → Int32} {Y8 Y9 : cs_T} (hco : coM pa ot na re my pm ma fa fy fr ar mn fo t w f vc goy tn (tt, ti, pl) rn wh cm (gg, Y8)) (hfn : (w9, Y9) = fnF (fr f.toNatClampNeg) wh cm Y8) : rn = nI b9 ∧ (b9 : Int) < mn.toInt ∧ gK (kdT ty) Y9 ∧ Z9 = Y9 ∧ (Y9.2.1.toInt = 0 → o9 = w9) := by
  have z0 : (0 : Int32).toInt = 0 := by decide
  have z1 : (1 : Int32).toInt = 1 := by decide
  obtain ⟨hU, hd, hP, hS, hX, hK, hB, hH, hN, hSt, hAb, hVa⟩ := hR
  have hty := hS.1
  have hmn := hS.2.1
  obtain ⟨hff, hfy, hA, hfr⟩ := hF
  have hnc : (nI c).toInt = (c : Int) := nI_toInt (by omega)
  have hnC : (nI c).toNatClampNeg = c := nI_c (by omega)
  have hmb : 0 ≤ (nI c).toInt ∧ (nI c).toInt < mn.toInt := by omega
  obtain ⟨sc2, mp2, m2, hw2, hwh, hco⟩ := hco
  obtain ⟨e1, e2, e3⟩ := wm_e hw hw2
  subst e1; subst e2; subst e3
  rcases hco with ⟨q, _⟩ | ⟨_, e0, s, hs, hru, hrn⟩
  · exfalso; omega
  have hs1 : s = 1 ∨ s = 0 := by
    rcases hs with ⟨_, q⟩ | ⟨_, q⟩
    · exact Or.inl q
    · exact Or.inr q
  obtain ⟨hrb, hsf, hlen, hagd, hre1, hgt⟩ := hcs.2 sc mp (nI c) e0 rn s hw hmb hs hru
  obtain ⟨tS, w1, s', hT1, hT2, hT3, hT4, hT5, hT6, hT7, hT8⟩ := wm_tk hmn.2 hw hmb
  have es : s' = s := by
    rcases hT1 with ⟨q, q2, _⟩ | ⟨q, q2⟩ <;> rcases hs with ⟨k, k2⟩ | ⟨k, k2⟩
    · rw [q2, k2]
    · exact absurd k q
    · exact absurd q k
    · rw [q2, k2]
  rw [es] at hT8
  have hagS := ag_s (s := s) hff hfy.2 hs1 hag
  have hs0 : sc.toInt ≠ 0 → (ar 0).toInt = 0 ∨ (1 ≤ (ar 0).toInt ∧ (ar 0).toInt ≤ tn.toInt) := fun q => by
    obtain ⟨u1, u2, u3⟩ := wm_sc hw q
    have ht := hf.2.1 (by omega)
    have u4 : (fa (3 * f).toNatClampNeg).toInt ≠ 10 := fun e => by
      rw [uM_c (by omega)] at u3
      have := (uR_le' hd u3).2 (by omega)
      have : t.toInt = 10 := by rw [this]; exact e
      omega
    rcases ag_0 hag (by omega) u4 with e | e
    · exact Or.inl e
    · exact Or.inr e.1
  have hsg : ∀ i : Nat, (i : Int) < mn.toInt → (sgM na my pm i = sgM na my pm c ↔ smM na my pm (nI i) (nI c)) := fun i q => sg_x (by omega) (by omega) hty.2 hS.2.2.2.2.1 (hX i q).1.1 (hX c hc).1.1 (hS.2.2.1 i (by omega)) (hS.2.2.1 c (by omega))
  have hch : ∀ v : Int32, 1 ≤ v.toInt ∧ v.toInt ≤ tn.toInt → tfX na my pm (hbX ha nm (if 1 ≤ v.toInt ∧ v.toInt ≤ tn.toInt then tt v.toNatClampNeg else -1)) mn c b9 → chL pa ot na my pm mn (tt v.toNatClampNeg) (nI c) (nI b9) mn.toNatClampNeg ∧ (b9 : Int) < mn.toInt := fun v hv h => by
    rw [if_pos hv] at h
    have hx := xN (x := v) (by omega)
    have hk : (0 ≤ (tt v.toNatClampNeg).toInt ∧ (tt v.toNatClampNeg).toInt < ty.toInt) ∨ 20 ≤ (tt v.toNatClampNeg).toInt := (hkd v.toNatClampNeg (by omega) (by omega)).imp id (fun q => q.1)
    exact tf_x hd hty hmn hX hk (fun i q => hb_x hty hmn.2 hH hN hk q) hc hsg h
  have hbn : rn = nI b9 ∧ (b9 : Int) < mn.toInt ∧ e0 = e9 := by
    rcases hmt with ⟨⟨k1, k2⟩, k3, k4⟩ | ⟨k1, r, k2, k3⟩
    · rcases hru with ⟨q1, _⟩ | ⟨q1, _⟩ | ⟨_, q1, _⟩ | ⟨_, _, q3, q4⟩
      · exact absurd k1 q1
      · exact absurd k1 q1
      · exact absurd q1 k2
      · exact ⟨by rw [q4, k4], by rw [k4]; exact hc, q3.trans k3.symm⟩
    · rcases hru with ⟨q1, q2, q3, q4⟩ | ⟨q1, q2, q3, q4⟩ | ⟨q1, q2, q3, q4⟩ | ⟨q1, q2, _⟩
      · rcases k2 with ⟨k2, k4⟩ | ⟨k2, _⟩
        · rw [k4] at k3
          rcases k3 with ⟨k5, k6, k7⟩ | ⟨k5, _⟩
          · exact ⟨by rw [q4, k7], by rw [k7]; exact hc, q3.trans k6.symm⟩
          · exact absurd q2 k5
        · exact absurd k2 q1
      · rcases k2 with ⟨k2, k4⟩ | ⟨k2, _⟩
        · rw [k4] at k3
          rcases k3 with ⟨k5, _⟩ | ⟨k5, k6, k7⟩
          · exact absurd k5 q2
          · obtain ⟨u1, u2⟩ := hch (ar 0) ((hs0 q1).resolve_left q2) k7
            exact ⟨ch_d q4 u1, u2, q3.trans k6.symm⟩
        · exact absurd k2 q1
      · rcases k2 with ⟨k2, _⟩ | ⟨k2, k4⟩
        · exact absurd q1 k2
        · rw [k4] at k3
          rcases k3 with ⟨k5, _⟩ | ⟨k5, k6, k7⟩
          · have := hvc q2
            omega
          · obtain ⟨u1, u2⟩ := hch vc (hvc q2) k7
            exact ⟨ch_d q4 u1, u2, q3.trans k6.symm⟩
      · exact absurd ⟨q1, q2⟩ k1
  obtain ⟨e4, hbm, e5⟩ := hbn
  subst e4; subst e5
  have hbC : (nI b9).toNatClampNeg = b9 := nI_c (by omega)
  have hsm : smM na my pm (nI b9) (nI c) := by
    have ch : ∀ T : Int32, chL pa ot na my pm mn T (nI c) (nI b9) mn.toNatClampNeg → smM na my pm (nI b9) (nI c) := fun T h => by
      rcases h with ⟨q, _⟩ | ⟨b, _, q, q2, _⟩
      · rw [q]; exact sm_r _
      · rw [q]; exact q2.1
    rcases hru with ⟨_, _, _, q⟩ | ⟨_, _, _, q⟩ | ⟨_, _, _, q⟩ | ⟨_, _, _, q⟩
    · rw [q]; exact sm_r _
    · exact ch _ q
    · exact ch _ q
    · rw [q]; exact sm_r _
  have hna : na b9 = na c := by have := hsm.1; rw [hbC, hnC] at this; exact this
  have hmc : my b9 = my c := by have := hsm.2.1; rw [hbC, hnC] at this; exact this
  have hyb := hS.2.2.1 b9 (by omega)
  have hNb := xN hyb.1
  have hQ := xN hfy.1
  obtain ⟨N, hNd⟩ : ∃ n : Nat, (my b9).toNatClampNeg = n := ⟨_, rfl⟩
  obtain ⟨nq, hqd⟩ : ∃ n : Nat, (fy f.toNatClampNeg).toNatClampNeg = n := ⟨_, rfl⟩
  obtain ⟨sN, hsd⟩ : ∃ n : Nat, (if sc.toInt ≠ 0 then 1 else 0 : Nat) = n := ⟨_, rfl⟩
  rw [hNd, hqd, hsd] at hha
  rw [hNd] at hgr hNb
  rw [hqd] at hQ
  rw [hbC] at hlen hre1
  have hsN : s = nI sN ∧ sN ≤ 1 := by
    rw [← hsd]
    rcases hs with ⟨q, q2⟩ | ⟨q, q2⟩
    · rw [if_pos q, q2]; exact ⟨by decide, by decide⟩
    · rw [if_neg (fun z => z q), q2]; exact ⟨by decide, by decide⟩
  have hsT : s.toInt = (sN : Int) := by rw [hsN.1]; exact nI_toInt (by omega)
  have hsC : s.toNatClampNeg = sN := tN hsT
  have hN1 : mp.toInt = 3 → 1 ≤ N := fun q => by omega
  have har : ∀ j : Nat, j < 10 → (s + nI j).toNatClampNeg = sN + j := fun j q => by
    have : (s + nI j).toInt = (sN : Int) + (j : Int) := iAdd hsT (nI_toInt (by omega)) (by omega) (by omega)
    exact tN (by omega)
  have hfq : ∀ j : Nat, sN + j < nq → fa (3 * f + s + nI j).toNatClampNeg = cutF fy fa f.toNatClampNeg (sN + j) := fun j q => by
    have := cutA (ty := ty) (fy := fy) (fa := fa) (f := f) (s := s) (j := j) hff hfy hs1.symm (by omega)
    rw [hsC] at this
    exact this.symm
  have hpf : ∀ j : Nat, j < N → pm (3 * nI b9 + nI j).toNatClampNeg = cutF my pm b9 j := fun j q => by
    rw [ixn (by omega) (by omega), cut_at (by rw [hNd]; exact q)]
  have hpc : ∀ j : Nat, j < N → pm (3 * nI b9 + nI j).toNatClampNeg = pm (3 * nI c + nI j).toNatClampNeg := fun j q => hsm.2.2 j (Nat.zero_le j) (by rw [hbC]; omega)
  have hlast : 1 ≤ N → my b9 - 1 = nI (N - 1) := fun q => xJ (by
    rw [nI_toInt (by omega), iSub (x := (my b9).toInt) (y := 1) rfl (by decide) (by omega) (by omega)]
    omega)
  have hplc : 1 ≤ N → ∀ j : Nat, j < 10 → plV my pm (nI b9) (nI j) = plV my pm (nI c) (nI j) := fun q j hj => by
    unfold plV
    rw [hbC, hnC, ← hmc, hlast q, hpc (N - 1) (by omega)]
    by_cases e : (nI j).toInt < (my b9).toInt - 1
    · rw [if_pos e, if_pos e]
      exact hpc j (by have := nI_toInt (n := j) (by omega); omega)
    · rw [if_neg e, if_neg e]
  have hplx : 1 ≤ N → ∀ j : Nat, N - 1 ≤ j → j < 10 → plV my pm (nI b9) (nI j) = prX (cutF my pm b9 (N - 1)) := fun q j q1 q2 => by
    unfold plV prX
    rw [hbC, if_neg (by rw [nI_toInt (by omega)]; omega), hlast q, hpf (N - 1) (by omega)]
  have hv3 : mp.toInt = 3 → ∀ j : Nat, j < 10 → plT ty (plV my pm (nI c) (nI j)) := fun q j hj => by
    have h4 : (ma c &&& 4).toInt ≠ 0 := by
      rcases hT8.1 with ⟨q1, _⟩ | ⟨_, q2, _⟩
      · omega
      · rw [hnC] at q2; exact q2
    exact pl_V hty (by omega) hS.2.2.2.2.1 (hS.2.2.2.2.2 c hc h4)
  have hfit : ∀ j : Nat, sN + j < nq → (j < (if mp.toInt = 3 then N - 1 else N) → (cutF my pm b9 j).toInt ≠ 11 ∧ ((cutF fy fa f.toNatClampNeg (sN + j)).toInt ≠ 10 → (cutF my pm b9 j).toInt = 10 → (cutF fy fa f.toNatClampNeg (sN + j)).toInt = 1)) ∧ (mp.toInt = 3 → N - 1 ≤ j → (plV my pm (nI b9) (nI j)).toInt ≠ 11 ∧ ((cutF fy fa f.toNatClampNeg (sN + j)).toInt ≠ 10 → (plV my pm (nI b9) (nI j)).toInt = 10 → (cutF fy fa f.toNatClampNeg (sN + j)).toInt = 1)) := fun j q => by
    obtain ⟨J1, J2, J3⟩ := hT8.2 j (Nat.zero_le j) (by omega)
    rw [hfq j q] at J1 J2 J3
    have ten : ∀ a b : Int32, lM pa a b → a.toInt ≠ 10 → b.toInt = 10 → a.toInt = 1 := fun a b h k1 k2 => (lM_10 hd k2 h).resolve_left k1
    refine ⟨fun hj => ?_, fun k3 hj => ?_⟩
    · have hjN : j < N := by
        split at hj
        · omega
        · omega
      rw [← hpf j hjN]
      have hp := hS.2.2.2.2.1 (3 * nI b9 + nI j).toNatClampNeg
      refine ⟨by unfold plT at hp; omega, fun k1 k2 => ?_⟩
      rw [hpc j hjN] at k2
      have hp3 : mp.toInt = 1 ∨ mp.toInt = 2 ∨ mp.toInt = 3 := by omega
      rcases hp3 with e | e | e
      · have e6 := uM_30 hd (Or.inr k2) (J1 e)
        rw [e6] at k1
        exact absurd k2 k1
      · exact ten _ _ (J2 e) k1 k2
      · refine ten _ _ (J3 e) k1 ?_
        rw [if_pos e] at hj
        unfold plV
        rw [hnC, ← hmc, if_pos (by rw [nI_toInt (by omega)]; omega)]
        exact k2
    · rw [hplc (hN1 k3) j (by omega)]
      have hp := hv3 k3 j (by omega)
      exact ⟨by unfold plT at hp; omega, fun k1 k2 => ten _ _ (J3 k3) k1 k2⟩
  have hx := ha_x (ty := ty) (ar := ar) (fa := fa) (fq := cutF fy fa f.toNatClampNeg) (pf := cutF my pm b9) (fy := fy) (my := my) (pm := pm) (m := nI b9) (f := f) (sI := s) (p := mp) (ip := ip) (tn := tn) (n := N) (nq := nq) (s := sN) (x := (gox, tn, e0, tt, ti, pl)) (y := (goy, tn, e0, tt, ti, pl)) rfl htn rfl (by omega) (by omega) hsN.2 (by rw [hbC]; omega) (by omega) hsN.1 hip (by omega) (fun j q => ⟨fun k1 => by
      have hz := hagS j (by omega) (by rw [hfq j q]; omega)
      rw [har j (by omega)] at hz
      exact hz.imp id (fun z => z.1), by rw [har j (by omega)], hfq j q, (hfit j q).1, (hfit j q).2⟩) hpf (fun k3 j q1 q2 => hplx (hN1 k3) j q1 (by omega)) (fun k3 => by
      rw [← hplx (hN1 k3) (N - 1) (Nat.le_refl _) (by omega), hplc (hN1 k3) (N - 1) (by omega)]
      have hp := hv3 k3 (N - 1) (by omega)
      unfold plT at hp
      omega)
  rw [← hha] at hx
  have hWb := gv_b (ar := ar) (fa := fa) (fy := fy) (my := my) (pm := pm) (m := nI b9) (f := f) (s := s) (p := mp) (x := (goy, tn, e0, tt, ti, pl)) htn
  have hle : ∀ j : Nat, j < N → (pm (3 * nI b9 + nI j).toNatClampNeg).toInt ≠ 10 → 0 ≤ ((gvF ar fa fy my pm (nI b9) f s mp (goy, tn, e0, tt, ti, pl)).1 j).toInt ∧ ((gvF ar fa fy my pm (nI b9) f s mp (goy, tn, e0, tt, ti, pl)).1 j).toInt ≤ (gvF ar fa fy my pm (nI b9) f s mp (goy, tn, e0, tt, ti, pl)).2.1.toInt := fun j q k => gv_le (n := N) (x := (goy, tn, e0, tt, ti, pl)) (show tnB (tn, e0, tt, ti, pl) from htn) (by rw [hbC]; omega) (by omega) hN1 (fun i q1 q2 q3 => by
      have q4 : (i : Int) < (fy f.toNatClampNeg).toInt - s.toInt := by
        rcases hlen with ⟨u1, _, u2⟩ | ⟨u1, _, _, u2⟩
        · omega
        · have := q2 u1
          omega
      exact (hagS i q4 q3).imp id (fun z => z.1)) q k
  have hK1 : kdT ty 1 := Or.inl ⟨by decide, by omega⟩
  have hg8 : gK (kdT ty) Y8 := rn_g (x := (goy, tn, e0, tt, ti, pl)) hK1 (fun k3 => by
      rw [hbC, hlast (hN1 k3), hpc (N - 1) (by have := hN1 k3; omega)]
      have h4 : (ma c &&& 4).toInt ≠ 0 := by
        rcases hT8.1 with ⟨q1, _⟩ | ⟨_, q2, _⟩
        · omega
        · rw [hnC] at q2; exact q2
      have h20 := hS.2.2.2.2.2 c hc h4
      rw [← hmc, hlast (hN1 k3)] at h20
      exact Or.inr ⟨h20, pl_any (hS.2.2.2.2.1 _)⟩) (fun u1 u2 => by
      rw [hbC] at u1 u2 ⊢
      have hany := (hX b9 hbm).1.2.1
      unfold kdT
      unfold anyT at hany ⊢
      omega) (fun u => by
      rw [hbC] at u ⊢
      have := hB b9 hbm
      rw [this.2 u]
      omega) ⟨htn, hkd, by
      rcases hru with ⟨_, _, q, _⟩ | ⟨_, _, q, _⟩ | ⟨_, _, q, _⟩ | ⟨_, _, q, _⟩
      · rw [q]; exact Or.inr (Or.inr (Or.inl (show (-21 : Int32).toInt = -21 by decide)))
      · rw [q]; exact Or.inl (show (0 : Int32).toInt = 0 by decide)
      · rw [q]; exact Or.inl (show (0 : Int32).toInt = 0 by decide)
      · rw [q]; exact Or.inl (show (0 : Int32).toInt = 0 by decide)⟩ hrn
  have hg9 : gK (kdT ty) Y9 := by
    have := fn_g (due := fr f.toNatClampNeg) (wh := wh) (cm := cm) hK1 hg8
    rw [← hfn] at this
    exact this
  unfold rnM at hrn
  rw [hbC] at hrn
  obtain ⟨W, hW⟩ : ∃ W, gvF ar fa fy my pm (nI b9) f s mp (goy, tn, e0, tt, ti, pl) = W := ⟨_, rfl⟩
  rw [hW] at hrn hx hWb hle
  obtain ⟨g, n7, en7, t7, i7, l7⟩ := W
  dsimp only at hrn hx hWb hle
  obtain ⟨hx1, hx2⟩ := hx
  subst hx1
  refine ⟨rfl, hbm, hg9, ?_⟩
  rcases hrn with ⟨k1, k2, k3⟩ | ⟨k1, k2, k3⟩
  · -- it has ended
    have eY : Y8 = (n7, en7, t7, i7, l7) := congrArg Prod.snd k3
    have eZ : Z8 = (n7, en7, t7, i7, l7) := gr_e k1 hgr
    subst eY; subst eZ
    rw [cv_1 (Or.inl k1)] at hcv
    unfold fnF at hfn
    rw [if_pos k1] at hfn
    have e6 := congrArg Prod.snd hcv
    have e7 := congrArg Prod.snd hfn
    dsimp only at e6 e7
    rw [e6, e7]
    exact ⟨rfl, fun q => absurd q k1⟩
  · -- it goes on
    obtain ⟨_, hgo⟩ := hx2 k1
    have hgd := hgt g n7 en7 t7 i7 l7 hW.symm k1
    have hG : ∀ j : Nat, j < N → gtX (cutF my pm b9) g n7 i7 j := fun j q => by
      have hnj : (nI j).toNatClampNeg = j := nI_c (by omega)
      obtain ⟨G1, G2⟩ := hgd j (by rw [hbC]; omega)
      rw [hnj, hpf j q] at G1 G2
      have hl := hle j q
      rw [hpf j q] at hl
      refine ⟨fun k => ?_, fun k => ?_⟩
      · have := hl (by omega)
        omega
      · have := hl (by omega)
        rcases Classical.em ((g j).toInt = 0) with u | u
        · exact Or.inl u
        · exact Or.inr ⟨by omega, (G2 k u).2⟩
    have hsu := su_x (ma := ma) (my := my) (pm := pm) (pf := cutF my pm b9) (go := g9) (gp := g) (tn := n7) (en := en7) (tt := t7) (ti := i7) (pl := l7) (b := b9) (N := N) (by omega) (by omega) (by omega) hWb.2 hpf hgo hG
    rw [hsu] at hgr
    have hgr2 := grX_c (oq := opL pa ot na my pm ma mn (re b9) 0) (fun u1 u2 u3 u4 => op_x hty hmn.2 hH hN hAb (Or.inl (by
      have := (hX b9 hbm).1.2.1
      unfold anyT at this
      omega))) hgr
    have hE := gr_x (by omega) (show my b9 = nI N by rw [← hNd]; exact (nI_self hyb.1).symm) (mk_re hty.2 hmn.2 hB hf h1t hw hc hbm hru hna) hgr2 k2
    have e6 := congrArg Prod.fst hE
    have e7 := congrArg Prod.snd hE
    dsimp only at e6 e7
    subst e6; subst e7
    have hfx := fn_x (due := fr f.toNatClampNeg) (wh := wh) (cm := m9) (z := Z8) (fun u1 u2 u3 => by
      have v1 : (re b9).toInt = 1 := hre1 (by rw [← hwh]; exact u1)
      rcases hgr2 with ⟨v2, _⟩ | ⟨v2, _⟩ | ⟨_, v2⟩ | ⟨v2, _⟩ | ⟨v2, _⟩
      · omega
      · omega
      · have v3 := congrArg Prod.fst v2
        have v4 := congrArg Prod.snd v2
        dsimp only at v3 v4
        rw [v4] at u3
        rw [v3, v4]
        exact md_0 hWb u3
      · omega
      · omega)
    rw [hwh] at hfx hfn
    rw [← hcv, ← hfn] at hfx
    exact hfx
theorem wm_4 {pa ot na re my pm ma fa fy fr : Nat → Int32} {mn fo t w f sc mp m : Int32} (h : wmM pa ot na re my pm ma fa fy fr mn fo t w f sc mp m) (hm : m.toInt = 99) (k4 : fo.toInt = 4) : lM pa (fa (3 * f).toNatClampNeg) 10 := by
  have z15 : (-15 : Int32).toInt = -15 := by decide
  have z11 : (-11 : Int32).toInt = -11 := by decide
  obtain ⟨r1, h1, h2⟩ := h
  have e : r1.toInt = 99 := by
    rcases h2 with ⟨_, q⟩ | ⟨_, q⟩ | ⟨_, q⟩
    · rw [← q]; exact hm
    · rw [← q]; exact hm
    · rw [q] at hm; omega
  rcases h1 with ⟨q, _⟩ | ⟨q, _⟩ | ⟨q, _⟩ | ⟨q, _⟩ | ⟨_, _, _, ⟨q, _⟩ | ⟨_, q⟩⟩
  · omega
  · omega
  · omega
  · omega
  · exact q.2
  · rw [q] at e; omega
/-- a call that makes one plainly goes the same way -/
theorem call_0 {pa ot na re ma my pm fy fa fr ar tt ti pl goy : Nat → Int32} {ty mn fo t w f vc tn : Int32} (hd : paD pa) (hty : 2 ≤ ty.toInt ∧ ty.toInt ≤ 10) (hkd : ∀ i : Nat, 1 ≤ i → (i : Int) ≤ tn.toInt → kdT ty (tt i)) (hmn : mn.toInt ≤ 40) (hF : fcR ty fy fa fr f) (hf : rfR ty fo t w) (htn : 0 ≤ tn.toInt ∧ tn.toInt ≤ 60) (hag : agM pa tt ar fa fy tn f 0) {sc mp : Int32} (hw : wmM pa ot na re my pm ma fa fy fr mn fo t w f sc mp 99) (h34 : fo.toInt = 3 ∨ fo.toInt = 4)
    {Z8 Z9 : cs_T} {m9 o9 : Int32} (hpl : ((fo.toInt = 3 ∨ (fy f.toNatClampNeg).toNatClampNeg = 0) ∧ (m9, Z8) = mdF (cmM re fo t 99) 0 (tn, 0, tt, ti, pl)) ∨ (¬ (fo.toInt = 3 ∨ (fy f.toNatClampNeg).toNatClampNeg = 0) ∧ (m9, Z8) = szX ar (cutF fy fa f.toNatClampNeg) (cmM re fo t 99) (tn, 0, tt, ti, pl))) (hcv : (o9, Z9) = cvX m9 (cmM re fo t 99) (fr f.toNatClampNeg) Z8)
    {rn wh cm w9 : Int32} {gg : Nat → Int32} {Y8 Y9 : cs_T} (hco : coM pa ot na re my pm ma fa fy fr ar mn fo t w f vc goy tn (tt, ti, pl) rn wh cm (gg, Y8)) (hfn : (w9, Y9) = fnF (fr f.toNatClampNeg) wh cm Y8) : rn = -4 ∧ gK (kdT ty) Y9 ∧ Z9 = Y9 ∧ (Y9.2.1.toInt = 0 → o9 = w9) := by
  have z0 : (0 : Int32).toInt = 0 := by decide
  have z99 : (99 : Int32).toInt = 99 := by decide
  have z30 : (30 : Int32).toInt = 30 := by decide
  have z20 : (20 : Int32).toInt = 20 := by decide
  obtain ⟨hff, hfy, hA, hfr⟩ := hF
  obtain ⟨sc2, mp2, m2, hw2, hwh, hco⟩ := hco
  obtain ⟨_, _, e3⟩ := wm_e hw hw2
  rw [← e3] at hwh hco
  rcases hco with ⟨_, hrn, _, hco⟩ | ⟨q, _⟩
  · have hK1 : kdT ty 1 := Or.inl ⟨by decide, by have z1 : (1 : Int32).toInt = 1 := (by decide); omega⟩
    have hKw : kdT ty (cmM re fo t 99) := by
      unfold cmM
      rcases h34 with k3 | k4
      · rw [if_neg (by omega), if_pos k3]; exact Or.inl (hf.2.1 (by omega))
      · rw [if_pos k4]
        have ht := hf.2.2.1 k4
        by_cases q : t.toInt = 10
        · rw [if_pos q]; exact Or.inr ⟨by omega, by unfold anyT; omega⟩
        · rw [if_neg q]
          have e := iAdd (a := 20) (b := t) z20 rfl (by omega) (by omega)
          exact Or.inr ⟨by omega, by unfold anyT; omega⟩
    have hg0 : gK (kdT ty) (tn, 0, tt, ti, pl) := ⟨htn, hkd, Or.inl z0⟩
    have hg8 : gK (kdT ty) Y8 := by
      rw [← hwh] at hKw
      rcases hco with ⟨_, k5⟩ | ⟨_, k5⟩
      · have := sz_g (ar := ar) (fa := fa) (f := f) hK1 hKw hg0
        rw [← k5] at this
        exact this
      · have := md_g (v := 0) hKw hg0
        rw [← k5] at this
        exact this
    have hg9 : gK (kdT ty) Y9 := by
      have := fn_g (due := fr f.toNatClampNeg) (wh := wh) (cm := cm) hK1 hg8
      rw [← hfn] at this
      exact this
    refine ⟨hrn, hg9, ?_⟩
    have hE : (m9, Z8) = (cm, Y8) := by
      rcases hco with ⟨k4, k5⟩ | ⟨k4, k5⟩
      · have hy1 := wm_99 hw z99 k4
        have hyN : (fy f.toNatClampNeg).toNatClampNeg = 1 := tN hy1
        have h10 := lM_10 hd (by decide) (wm_4 hw z99 k4)
        have e0 : (3 * f).toNatClampNeg = 3 * f.toNatClampNeg := by
          have hfx := xN hff.1
          have : (3 * f).toInt = 3 * f.toInt := iMul (by decide) rfl (by omega) (by omega)
          exact tN (by omega)
        have ec : cutF fy fa f.toNatClampNeg 0 = fa (3 * f).toNatClampNeg := by rw [cut_at (by omega), e0]; rfl
        rcases hpl with ⟨q | q, _⟩ | ⟨_, q⟩
        · omega
        · omega
        · rw [q]
          dsimp only at k5
          rw [k5, hwh]
          exact sz_x ec (by rw [ec]; exact h10) (fun u => by
            rw [ec] at u
            rcases ag_0 hag (by omega) (by omega) with v | v
            · exact Or.inl v
            · exact Or.inr v.1)
      · rcases hpl with ⟨_, q⟩ | ⟨q, _⟩
        · rw [q]
          dsimp only at k5
          rw [k5, hwh]
        · exact absurd (Or.inl (h34.resolve_right k4)) q
    have e6 := congrArg Prod.fst hE
    have e7 := congrArg Prod.snd hE
    dsimp only at e6 e7
    subst e6; subst e7
    have hfx := fn_x (due := fr f.toNatClampNeg) (wh := wh) (cm := m9) (z := Z8) (fun u1 u2 u3 => by
      rcases h34 with k3 | k4
      · rcases hpl with ⟨_, q⟩ | ⟨q, _⟩
        · have v3 := congrArg Prod.fst q
          have v4 := congrArg Prod.snd q
          dsimp only at v3 v4
          rw [v4] at u3
          rw [v3, v4]
          exact md_0 htn u3
        · exact absurd (Or.inl k3) q
      · exfalso
        rw [hwh] at u1
        unfold cmM at u1
        rw [if_pos k4] at u1
        have ht := hf.2.2.1 k4
        by_cases q : t.toInt = 10
        · rw [if_pos q] at u1
          omega
        · rw [if_neg q, iAdd z20 rfl (by omega) (by omega)] at u1
          omega)
    rw [hwh] at hfx hfn
    rw [← hcv, ← hfn] at hfx
    exact hfx
  · exfalso; omega
