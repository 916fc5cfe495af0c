section P68
variable {M M0 : Hp} {z lo a n len j c i s m hd : Nat} {f ft t : Row} {h : Nat → Row} {sv : Nat → Option Row} {g : Nat → Nat} {x y w0 w1 w2 : Int32} {Φ : GR → Hp → Nat → Prop} {T : Nat → Nat → Nat} {Ln : Nat → Nat}
theorem q_tryThreadT (hF : RugF M a f) (hI : Rng f) (hc : c < 5) (h20 : nI 20 ≤ f (432 + 5 * c)) : Runs mX4_tryThread [.ref a, .int (nI c)] M z (Mut (some (.int (bI (decide (nI 20 ≤ f (432 + 5 * c)))))) M a (f_thread f c) z) := by
  have e := q_tryThread (z := z) hF hI hc
  rw [if_pos h20] at e
  exact e
theorem q_tryCutT (hF : RugF M a f) (hI : Rng f) (ht : 0 < tno f) : Runs mX4_tryCut [.ref a] M z (Mut (some (.int (bI (decide (0 < tno f))))) M a (f_cut f) z) := by
  have e := q_tryCut (z := z) hF hI
  unfold f_cut0 at e
  rw [if_pos ht] at e
  exact e
theorem q_tryEaseT (hF : RugF M a f) (hI : Rng f) (ht : 0 < tno f) : Runs mX4_tryEase [.ref a] M z (Mut (some (.int (bI (decide (0 < tno f))))) M a (f_ease f) z) := by
  have e := q_tryEase (z := z) hF hI
  rw [if_pos ht] at e
  exact e
theorem q_tryUnpickT (hF : RugF M a f) (hI : Rng f) (hj : j < 144) (hl : hasL (f (144 + j)) = true) : Runs mX4_tryUnpick [.ref a, .int (nI j)] M z (Mut none M a (f_unpick f j) z) := by
  have e := q_tryUnpick (z := z) hF hI hj
  rw [if_pos hl] at e
  exact e
theorem q_playS {pb : Nat} {sc : Nat → Option Nat} {pl gr ti : Row} {lv od bk : Int32} (hA : PlAt M pb sc pl gr ti lv od bk) (hd : pb + 5 ≤ a ∨ a + 20 ≤ pb) (hF : RugF M a f) (hI : Rng f) (hX : TxF f T Ln) (hT : TxtsOK T Ln) (hs : s < 4) : Runs mX3_play [.ref pb, .ref a, .ref (a + (12 + 2 * s))] M z (PlayQ M pb a (prun T Ln 4001 f [(s, 0, 0, 0)] 0 0) z) := by
  have e := q_play (z := z) (tx := pb + a + 100) hA hd (by omega) (by omega) hF hI hX hT (show s < 5 by omega) (fun e => absurd e (by omega))
  unfold adS at e
  rw [if_neg (by omega)] at e
  exact e
theorem q_play4 {pb tx : Nat} {sc : Nat → Option Nat} {pl gr ti : Row} {lv od bk : Int32} (hA : PlAt M pb sc pl gr ti lv od bk) (hd : pb + 5 ≤ a ∨ a + 20 ≤ pb) (htp : tx + 2 ≤ pb ∨ pb + 5 ≤ tx) (hta : tx + 2 ≤ a ∨ a + 20 ≤ tx) (hF : RugF M a f) (hI : Rng f) (hX : TxF f T Ln) (hT : TxtsOK T Ln) (h4 : ScriptAt M tx (Ln 4) (T 4)) : Runs mX3_play [.ref pb, .ref a, .ref tx] M z (PlayQ M pb a (prun T Ln 4001 f [(4, 0, 0, 0)] 0 0) z) :=
  q_play (s := 4) hA hd htp hta hF hI hX hT (by omega) (fun _ => h4)
theorem c_setPlan (hC : CInv M a lo z f n h sv len g) (hI : Rng f) (hj : j < 144) (hx1 : ¬ x < -1) (hx2 : x ≤ nI 4) : Runs mX7_setPlan [.ref a, .int (nI j), .int x] M z (CQ (some (.int (f j - nI 1))) M a lo (upd f j (x + nI 1)) (remN n) (remH n h f) sv len g z) := by
  obtain ⟨ho, hF, ⟨ft, hFt⟩, hH, hS, ⟨sc, pl, gr, ti, lv, od, bk, hP⟩, ⟨O, Rq, rc, Cq, hAr⟩, l1, l2⟩ := id hC
  obtain ⟨R, ln, sg, hA, hRel⟩ := id hF
  obtain ⟨r0, r1, r2, ⟨k3, k4, k5, k6, k7⟩, ⟨s0, s1, s2, s3, s4, s5⟩, m1, m2, m3⟩ := id hRel
  obtain ⟨old, P, rows, fm, fs, ⟨hHi, hsl⟩, hSl, hold, hn14, hfm, hrow, hfs, hsv⟩ := id hH
  refine runs_of plX7 rfl (Nat.le_of_ble_eq_true rfl) ?_
  show WP mX7_setPlan 0 [some (.ref a), some (.int (nI j)), some (.int x), none] [] M z 0 0 _
  refine g_iload_1 dX7_setPlan_0 ?_
  refine g_s1_0r dX7_setPlan_1 (sX7_74 rfl) rfl (Nat.le_of_ble_eq_true rfl) (Nat.le_of_ble_eq_true rfl) (Nat.le_of_ble_eq_true rfl) (c_needCell_ok hj) ?_
  refine g_iload_2 dX7_setPlan_4 ?_
  refine g_iconst (v := -1) dX7_setPlan_5 rfl ?_
  refine g_iconst (v := nI 4) dX7_setPlan_6 rfl ?_
  refine g_s3_0r dX7_setPlan_7 (sX7_51 rfl) rfl (Nat.le_of_ble_eq_true rfl) (Nat.le_of_ble_eq_true rfl) (Nat.le_of_ble_eq_true rfl) (c_needRange_ok hx1 hx2) ?_
  refine g_aload_0 dX7_setPlan_10 ?_
  refine g_get dX7_setPlan_11 (fX7_26 rfl) ho rfl ?_
  refine g_aload_0 dX7_setPlan_14 ?_
  refine g_get dX7_setPlan_15 (fX7_12 rfl) ho rfl ?_
  refine g_v1 dX7_setPlan_18 (vX7_193 rfl) rfl hHi.1 (Nat.le_of_ble_eq_true rfl) (Nat.le_of_ble_eq_true rfl) (Nat.le_of_ble_eq_true rfl) (q_remC hC) (fun r M2 z2 hq => ?_) (fun E M2 z2 hq => by obtain ⟨hq, -⟩ := hq; cases hq)
  obtain ⟨hr, hC2, hX2⟩ := hq
  cases hr
  obtain ⟨ho, hF, ⟨ft, hFt⟩, hH, hS, ⟨sc, pl, gr, ti, lv, od, bk, hP⟩, ⟨O, Rq, rc, Cq, hAr⟩, l1, l2⟩ := id hC2
  obtain ⟨R, ln, sg, hA, hRel⟩ := id hF
  obtain ⟨r0, r1, r2, ⟨k3, k4, k5, k6, k7⟩, ⟨s0, s1, s2, s3, s4, s5⟩, m1, m2, m3⟩ := id hRel
  obtain ⟨old, P, rows, fm, fs, ⟨hHi, hsl⟩, hSl, hold, hn14, hfm, hrow, hfs, hsv⟩ := id hH
  refine g_aload_0 dX7_setPlan_21 ?_
  refine g_get dX7_setPlan_22 (fX7_12 rfl) ho rfl ?_
  refine g_get dX7_setPlan_25 (fX7_78 rfl) hA.1 rfl ?_
  refine g_iload_1 dX7_setPlan_28 ?_
  refine g_v1_1 dX7_setPlan_29 (vX7_82 rfl) rfl hA.2.1.1 (Nat.le_of_ble_eq_true rfl) ⟨rfl, rfl⟩ (Nat.le_of_ble_eq_true rfl) (Nat.le_of_ble_eq_true rfl) (c_planAt hA.2.1 hj) ?_
  rw [r0 j hj]
  refine g_istore_3 rfl dX7_setPlan_32 ?_
  refine g_aload_0 dX7_setPlan_33 ?_
  refine g_get dX7_setPlan_34 (fX7_12 rfl) ho rfl ?_
  refine g_get dX7_setPlan_37 (fX7_78 rfl) hA.1 rfl ?_
  refine g_iload_1 dX7_setPlan_40 ?_
  refine g_iload_2 dX7_setPlan_41 ?_
  refine g_v2 dX7_setPlan_42 (vX7_197 rfl) rfl hA.2.1.1 (Nat.le_of_ble_eq_true rfl) (Nat.le_of_ble_eq_true rfl) (Nat.le_of_ble_eq_true rfl) (r_setPlanAt hA hj) (fun r M2 z2 hq => ?_) (fun E M2 z2 hq => by obtain ⟨hq, -⟩ := hq; cases hq)
  obtain ⟨hr, hA3, hO3, rfl⟩ := hq
  cases hr
  have hF3 : RugF _ (a + 1) (upd f j (x + nI 1)) := ⟨_, ln, sg, hA3, hRel.plan hj (by grind)⟩
  refine g_iload_3 dX7_setPlan_45 ?_
  exact g_ireturn rfl rfl dX7_setPlan_46 (Nat.le_of_ble_eq_true rfl) (Nat.le_of_ble_eq_true rfl) ⟨rfl, hC2.rug hO3 hF3, hX2.tr (CFr.of hO3 (by omega) (by omega))⟩
theorem c_setPlan_x1 (hC : CInv M a lo z f n h sv len g) (hI : Rng f) (hx : x < 0 ∨ nI 144 ≤ x) : Runs mX7_setPlan [.ref a, .int x, .int y] M z (gE IOE M z) := by
  obtain ⟨ho, hF, ⟨ft, hFt⟩, hH, hS, ⟨sc, pl, gr, ti, lv, od, bk, hP⟩, ⟨O, Rq, rc, Cq, hAr⟩, l1, l2⟩ := id hC
  obtain ⟨R, ln, sg, hA, hRel⟩ := id hF
  obtain ⟨r0, r1, r2, ⟨k3, k4, k5, k6, k7⟩, ⟨s0, s1, s2, s3, s4, s5⟩, m1, m2, m3⟩ := id hRel
  refine runs_of plX7 rfl (Nat.le_of_ble_eq_true rfl) ?_
  show WP mX7_setPlan 0 [some (.ref a), some (.int x), some (.int y), none] [] M z 0 0 _
  refine g_iload_1 dX7_setPlan_0 ?_
  refine g_s1_x dX7_setPlan_1 (sX7_74 rfl) rfl (Nat.le_of_ble_eq_true rfl) (Nat.le_of_ble_eq_true rfl) (Nat.le_of_ble_eq_true rfl) (c_needCell_x hx) (fun z2 hz2 => ?_)
  exact x_out rfl (Nat.le_of_ble_eq_true rfl) (Nat.le_of_ble_eq_true rfl) ⟨rfl, rfl, hz2⟩
theorem c_setPlan_x2 (hC : CInv M a lo z f n h sv len g) (hI : Rng f) (hj : j < 144) (hx : y < -1 ∨ nI 4 < y) : Runs mX7_setPlan [.ref a, .int (nI j), .int y] M z (gE IAE M z) := by
  obtain ⟨ho, hF, ⟨ft, hFt⟩, hH, hS, ⟨sc, pl, gr, ti, lv, od, bk, hP⟩, ⟨O, Rq, rc, Cq, hAr⟩, l1, l2⟩ := id hC
  obtain ⟨R, ln, sg, hA, hRel⟩ := id hF
  obtain ⟨r0, r1, r2, ⟨k3, k4, k5, k6, k7⟩, ⟨s0, s1, s2, s3, s4, s5⟩, m1, m2, m3⟩ := id hRel
  refine runs_of plX7 rfl (Nat.le_of_ble_eq_true rfl) ?_
  show WP mX7_setPlan 0 [some (.ref a), some (.int (nI j)), some (.int y), none] [] M z 0 0 _
  refine g_iload_1 dX7_setPlan_0 ?_
  refine g_s1_0r dX7_setPlan_1 (sX7_74 rfl) rfl (Nat.le_of_ble_eq_true rfl) (Nat.le_of_ble_eq_true rfl) (Nat.le_of_ble_eq_true rfl) (c_needCell_ok hj) ?_
  refine g_iload_2 dX7_setPlan_4 ?_
  refine g_iconst (v := -1) dX7_setPlan_5 rfl ?_
  refine g_iconst (v := nI 4) dX7_setPlan_6 rfl ?_
  refine g_s3_x dX7_setPlan_7 (sX7_51 rfl) rfl (Nat.le_of_ble_eq_true rfl) (Nat.le_of_ble_eq_true rfl) (Nat.le_of_ble_eq_true rfl) (c_needRange_x hx) (fun z2 hz2 => ?_)
  exact x_out rfl (Nat.le_of_ble_eq_true rfl) (Nat.le_of_ble_eq_true rfl) ⟨rfl, rfl, hz2⟩
theorem fl_rel {R : Nat → Row} {ln : Nat → Nat} {sg : Nat → Nat → Nat} (hr : Rel R ln sg f) : Rel (mkR (flP (R 0) x i j 144) (R 1) (R 2) (R 3) (R 4) (R 5) (R 6) (R 7) (R 13)) ln sg (flP f (x + nI 1) i j 144) := by
  have e : ∀ k, 144 ≤ k → flP f (x + nI 1) i j 144 k = f k := fun k hk => if_neg (by omega)
  obtain ⟨r0, r1, r2, ⟨k3, k4, k5, k6, k7⟩, ⟨s0, s1, s2, s3, s4, s5⟩, m1, m2, m3⟩ := hr
  refine ⟨fun k hk => ?_, fun k hk => by rw [e _ (by omega)]; exact r1 k hk, fun k hk => by rw [e _ (by omega), e _ (by omega)]; exact r2 k hk, ⟨fun k hk => by rw [e _ (by omega)]; exact k3 k hk, fun k hk => by rw [e _ (by omega)]; exact k4 k hk, fun k hk => by rw [e _ (by omega)]; exact k5 k hk, fun k hk => by rw [e _ (by omega)]; exact k6 k hk, fun k hk => by rw [e _ (by omega)]; exact k7 k hk⟩, ⟨by rw [e _ (by omega)]; exact s0, by rw [e _ (by omega)]; exact s1, by rw [e _ (by omega)]; exact s2, by rw [e _ (by omega)]; exact s3, by rw [e _ (by omega)]; exact s4, by rw [e _ (by omega)]; exact s5⟩, fun k hk => by rw [e _ (by omega)]; exact m1 k hk, fun k hk q hq => by rw [e _ (by omega)]; exact m2 k hk q hq, m3⟩
  show flP (R 0) x i j 144 k = flP f (x + nI 1) i j 144 k - nI 1
  unfold flP
  by_cases hq : k < 144 ∧ inR i j k = true
  · rw [if_pos hq, if_pos hq]
    grind
  · rw [if_neg hq, if_neg hq]
    exact r0 k hk
theorem fl_cnt {R : Nat → Row} {ln : Nat → Nat} {sg : Nat → Nat → Nat} (hr : Rel R ln sg f) : cnt (flQ (R 0) x i j) 144 = cnt (flQ f (x + nI 1) i j) 144 := cnt_congr (fun k hk => by
  unfold flQ
  rw [hr.1 k hk]
  congr 1
  rw [decide_eq_decide]
  constructor
  · intro q w
    exact q (by rw [w]; grind)
  · intro q w
    exact q (by rw [← w]; grind))
theorem RugAt.fill {M' : Hp} {R : Nat → Row} {ln : Nat → Nat} {sg : Nat → Nat → Nat} {p : Row} (hA : RugAt M a R ln sg) (hO : Out M M' (a + 1) 4) (hc : CanvasAt M' (a + 1) p (R 1) (R 2)) : RugAt M' a (mkR p (R 1) (R 2) (R 3) (R 4) (R 5) (R 6) (R 7) (R 13)) ln sg := by
  obtain ⟨h1, h2, h3, h4⟩ := hA
  exact ⟨(hO _ (by omega)).trans h1, hc, h3.keep (fun q _ _ => hO q (by omega)), h4.keep (fun q _ _ => hO q (by omega))⟩
theorem c_fillPlan (hC : CInv M a lo z f n h sv len g) (hI : Rng f) (hi : i < 144) (hj : j < 144) (hx1 : ¬ x < -1) (hx2 : x ≤ nI 4) : Runs mX7_fillPlan [.ref a, .int (nI i), .int (nI j), .int x] M z (CQ (some (.int (nI (cnt (flQ f (x + nI 1) i j) 144)))) M a lo (flP f (x + nI 1) i j 144) (remN n) (remH n h f) sv len g z) := by
  obtain ⟨ho, hF, ⟨ft, hFt⟩, hH, hS, ⟨sc, pl, gr, ti, lv, od, bk, hP⟩, ⟨O, Rq, rc, Cq, hAr⟩, l1, l2⟩ := id hC
  obtain ⟨R, ln, sg, hA, hRel⟩ := id hF
  obtain ⟨r0, r1, r2, ⟨k3, k4, k5, k6, k7⟩, ⟨s0, s1, s2, s3, s4, s5⟩, m1, m2, m3⟩ := id hRel
  obtain ⟨old, P, rows, fm, fs, ⟨hHi, hsl⟩, hSl, hold, hn14, hfm, hrow, hfs, hsv⟩ := id hH
  refine runs_of plX7 rfl (Nat.le_of_ble_eq_true rfl) ?_
  show WP mX7_fillPlan 0 [some (.ref a), some (.int (nI i)), some (.int (nI j)), some (.int x)] [] M z 0 0 _
  refine g_iload_1 dX7_fillPlan_0 ?_
  refine g_s1_0r dX7_fillPlan_1 (sX7_74 rfl) rfl (Nat.le_of_ble_eq_true rfl) (Nat.le_of_ble_eq_true rfl) (Nat.le_of_ble_eq_true rfl) (c_needCell_ok hi) ?_
  refine g_iload_2 dX7_fillPlan_4 ?_
  refine g_s1_0r dX7_fillPlan_5 (sX7_74 rfl) rfl (Nat.le_of_ble_eq_true rfl) (Nat.le_of_ble_eq_true rfl) (Nat.le_of_ble_eq_true rfl) (c_needCell_ok hj) ?_
  refine g_iload_3 dX7_fillPlan_8 ?_
  refine g_iconst (v := -1) dX7_fillPlan_9 rfl ?_
  refine g_iconst (v := nI 4) dX7_fillPlan_10 rfl ?_
  refine g_s3_0r dX7_fillPlan_11 (sX7_51 rfl) rfl (Nat.le_of_ble_eq_true rfl) (Nat.le_of_ble_eq_true rfl) (Nat.le_of_ble_eq_true rfl) (c_needRange_ok hx1 hx2) ?_
  refine g_aload_0 dX7_fillPlan_14 ?_
  refine g_get dX7_fillPlan_15 (fX7_26 rfl) ho rfl ?_
  refine g_aload_0 dX7_fillPlan_18 ?_
  refine g_get dX7_fillPlan_19 (fX7_12 rfl) ho rfl ?_
  refine g_v1 dX7_fillPlan_22 (vX7_193 rfl) rfl hHi.1 (Nat.le_of_ble_eq_true rfl) (Nat.le_of_ble_eq_true rfl) (Nat.le_of_ble_eq_true rfl) (q_remC hC) (fun r M2 z2 hq => ?_) (fun E M2 z2 hq => by obtain ⟨hq, -⟩ := hq; cases hq)
  obtain ⟨hr, hC2, hX2⟩ := hq
  cases hr
  obtain ⟨ho, hF, ⟨ft, hFt⟩, hH, hS, ⟨sc, pl, gr, ti, lv, od, bk, hP⟩, ⟨O, Rq, rc, Cq, hAr⟩, l1, l2⟩ := id hC2
  obtain ⟨R, ln, sg, hA, hRel⟩ := id hF
  obtain ⟨r0, r1, r2, ⟨k3, k4, k5, k6, k7⟩, ⟨s0, s1, s2, s3, s4, s5⟩, m1, m2, m3⟩ := id hRel
  obtain ⟨old, P, rows, fm, fs, ⟨hHi, hsl⟩, hSl, hold, hn14, hfm, hrow, hfs, hsv⟩ := id hH
  refine g_aload_0 dX7_fillPlan_25 ?_
  refine g_get dX7_fillPlan_26 (fX7_12 rfl) ho rfl ?_
  refine g_get dX7_fillPlan_29 (fX7_78 rfl) hA.1 rfl ?_
  refine g_iload_1 dX7_fillPlan_32 ?_
  refine g_iload_2 dX7_fillPlan_33 ?_
  refine g_iload_3 dX7_fillPlan_34 ?_
  refine g_v3 dX7_fillPlan_35 (vX7_201 rfl) rfl hA.2.1.1 (Nat.le_of_ble_eq_true rfl) (Nat.le_of_ble_eq_true rfl) (Nat.le_of_ble_eq_true rfl) (c_fillBetween (x := x) hA.2.1 hi hj) (fun r M2 z2 hq => ?_) (fun E M2 z2 hq => by obtain ⟨hq, -⟩ := hq; cases hq)
  obtain ⟨hr, hc3, hO3, rfl⟩ := hq
  cases hr
  have hF3 : RugF _ (a + 1) (flP f (x + nI 1) i j 144) := ⟨_, ln, sg, hA.fill hO3 hc3, fl_rel hRel⟩
  exact g_ireturn rfl rfl dX7_fillPlan_38 (Nat.le_of_ble_eq_true rfl) (Nat.le_of_ble_eq_true rfl) ⟨by rw [fl_cnt hRel], hC2.rug (fun q hq => hO3 q (by omega)) hF3, hX2.tr (CFr.of hO3 (by omega) (by omega))⟩
theorem c_fillPlan_x1 (hC : CInv M a lo z f n h sv len g) (hI : Rng f) (hx : x < 0 ∨ nI 144 ≤ x) : Runs mX7_fillPlan [.ref a, .int x, .int y, .int w0] M z (gE IOE M z) := by
  obtain ⟨ho, hF, ⟨ft, hFt⟩, hH, hS, ⟨sc, pl, gr, ti, lv, od, bk, hP⟩, ⟨O, Rq, rc, Cq, hAr⟩, l1, l2⟩ := id hC
  obtain ⟨R, ln, sg, hA, hRel⟩ := id hF
  obtain ⟨r0, r1, r2, ⟨k3, k4, k5, k6, k7⟩, ⟨s0, s1, s2, s3, s4, s5⟩, m1, m2, m3⟩ := id hRel
  refine runs_of plX7 rfl (Nat.le_of_ble_eq_true rfl) ?_
  show WP mX7_fillPlan 0 [some (.ref a), some (.int x), some (.int y), some (.int w0)] [] M z 0 0 _
  refine g_iload_1 dX7_fillPlan_0 ?_
  refine g_s1_x dX7_fillPlan_1 (sX7_74 rfl) rfl (Nat.le_of_ble_eq_true rfl) (Nat.le_of_ble_eq_true rfl) (Nat.le_of_ble_eq_true rfl) (c_needCell_x hx) (fun z2 hz2 => ?_)
  exact x_out rfl (Nat.le_of_ble_eq_true rfl) (Nat.le_of_ble_eq_true rfl) ⟨rfl, rfl, hz2⟩
theorem c_fillPlan_x2 (hC : CInv M a lo z f n h sv len g) (hI : Rng f) (hi : i < 144) (hx : y < 0 ∨ nI 144 ≤ y) : Runs mX7_fillPlan [.ref a, .int (nI i), .int y, .int w0] M z (gE IOE M z) := by
  obtain ⟨ho, hF, ⟨ft, hFt⟩, hH, hS, ⟨sc, pl, gr, ti, lv, od, bk, hP⟩, ⟨O, Rq, rc, Cq, hAr⟩, l1, l2⟩ := id hC
  obtain ⟨R, ln, sg, hA, hRel⟩ := id hF
  obtain ⟨r0, r1, r2, ⟨k3, k4, k5, k6, k7⟩, ⟨s0, s1, s2, s3, s4, s5⟩, m1, m2, m3⟩ := id hRel
  refine runs_of plX7 rfl (Nat.le_of_ble_eq_true rfl) ?_
  show WP mX7_fillPlan 0 [some (.ref a), some (.int (nI i)), some (.int y), some (.int w0)] [] M z 0 0 _
  refine g_iload_1 dX7_fillPlan_0 ?_
  refine g_s1_0r dX7_fillPlan_1 (sX7_74 rfl) rfl (Nat.le_of_ble_eq_true rfl) (Nat.le_of_ble_eq_true rfl) (Nat.le_of_ble_eq_true rfl) (c_needCell_ok hi) ?_
  refine g_iload_2 dX7_fillPlan_4 ?_
  refine g_s1_x dX7_fillPlan_5 (sX7_74 rfl) rfl (Nat.le_of_ble_eq_true rfl) (Nat.le_of_ble_eq_true rfl) (Nat.le_of_ble_eq_true rfl) (c_needCell_x hx) (fun z2 hz2 => ?_)
  exact x_out rfl (Nat.le_of_ble_eq_true rfl) (Nat.le_of_ble_eq_true rfl) ⟨rfl, rfl, hz2⟩
theorem c_fillPlan_x3 (hC : CInv M a lo z f n h sv len g) (hI : Rng f) (hi : i < 144) (hj : j < 144) (hx : w0 < -1 ∨ nI 4 < w0) : Runs mX7_fillPlan [.ref a, .int (nI i), .int (nI j), .int w0] M z (gE IAE M z) := by
  obtain ⟨ho, hF, ⟨ft, hFt⟩, hH, hS, ⟨sc, pl, gr, ti, lv, od, bk, hP⟩, ⟨O, Rq, rc, Cq, hAr⟩, l1, l2⟩ := id hC
  obtain ⟨R, ln, sg, hA, hRel⟩ := id hF
  obtain ⟨r0, r1, r2, ⟨k3, k4, k5, k6, k7⟩, ⟨s0, s1, s2, s3, s4, s5⟩, m1, m2, m3⟩ := id hRel
  refine runs_of plX7 rfl (Nat.le_of_ble_eq_true rfl) ?_
  show WP mX7_fillPlan 0 [some (.ref a), some (.int (nI i)), some (.int (nI j)), some (.int w0)] [] M z 0 0 _
  refine g_iload_1 dX7_fillPlan_0 ?_
  refine g_s1_0r dX7_fillPlan_1 (sX7_74 rfl) rfl (Nat.le_of_ble_eq_true rfl) (Nat.le_of_ble_eq_true rfl) (Nat.le_of_ble_eq_true rfl) (c_needCell_ok hi) ?_
  refine g_iload_2 dX7_fillPlan_4 ?_
  refine g_s1_0r dX7_fillPlan_5 (sX7_74 rfl) rfl (Nat.le_of_ble_eq_true rfl) (Nat.le_of_ble_eq_true rfl) (Nat.le_of_ble_eq_true rfl) (c_needCell_ok hj) ?_
  refine g_iload_3 dX7_fillPlan_8 ?_
  refine g_iconst (v := -1) dX7_fillPlan_9 rfl ?_
  refine g_iconst (v := nI 4) dX7_fillPlan_10 rfl ?_
  refine g_s3_x dX7_fillPlan_11 (sX7_51 rfl) rfl (Nat.le_of_ble_eq_true rfl) (Nat.le_of_ble_eq_true rfl) (Nat.le_of_ble_eq_true rfl) (c_needRange_x hx) (fun z2 hz2 => ?_)
  exact x_out rfl (Nat.le_of_ble_eq_true rfl) (Nat.le_of_ble_eq_true rfl) ⟨rfl, rfl, hz2⟩
theorem c_thread (hC : CInv M a lo z f n h sv len g) (hI : Rng f) (hc : c < 5) (h20 : nI 20 ≤ f (432 + 5 * c)) : Runs mX7_thread [.ref a, .int (nI c)] M z (CQ (some (.int (f_thread f c (432 + 5 * c)))) M a lo (f_thread f c) (remN n) (remH n h f) sv len g z) := by
  obtain ⟨ho, hF, ⟨ft, hFt⟩, hH, hS, ⟨sc, pl, gr, ti, lv, od, bk, hP⟩, ⟨O, Rq, rc, Cq, hAr⟩, l1, l2⟩ := id hC
  obtain ⟨R, ln, sg, hA, hRel⟩ := id hF
  obtain ⟨r0, r1, r2, ⟨k3, k4, k5, k6, k7⟩, ⟨s0, s1, s2, s3, s4, s5⟩, m1, m2, m3⟩ := id hRel
  obtain ⟨old, P, rows, fm, fs, ⟨hHi, hsl⟩, hSl, hold, hn14, hfm, hrow, hfs, hsv⟩ := id hH
  refine runs_of plX7 rfl (Nat.le_of_ble_eq_true rfl) ?_
  show WP mX7_thread 0 [some (.ref a), some (.int (nI c))] [] M z 0 0 _
  refine g_iload_1 dX7_thread_0 ?_
  refine g_s1_0r dX7_thread_1 (sX7_110 rfl) rfl (Nat.le_of_ble_eq_true rfl) (Nat.le_of_ble_eq_true rfl) (Nat.le_of_ble_eq_true rfl) (c_needColour_ok hc) ?_
  refine g_aload_0 dX7_thread_4 ?_
  refine g_get dX7_thread_5 (fX7_12 rfl) ho rfl ?_
  refine g_get dX7_thread_8 (fX7_147 rfl) hA.1 rfl ?_
  refine g_iload_1 dX7_thread_11 ?_
  refine g_v1_1 dX7_thread_12 (vX7_205 rfl) rfl hA.2.2.1.1 (Nat.le_of_ble_eq_true rfl) ⟨rfl, rfl⟩ (Nat.le_of_ble_eq_true rfl) (Nat.le_of_ble_eq_true rfl) (c_hasEnd hA.2.2.1 hc) ?_
  rw [k3 c hc]
  refine g_if_neB (tgt := 28) dX7_thread_15 (by decide)  (fun _ => ?_) (fun h15 => absurd h20 (of_decide_eq_false h15))
  refine g_aload_0 dX7_thread_28 ?_
  refine g_get dX7_thread_29 (fX7_26 rfl) ho rfl ?_
  refine g_aload_0 dX7_thread_32 ?_
  refine g_get dX7_thread_33 (fX7_12 rfl) ho rfl ?_
  refine g_v1 dX7_thread_36 (vX7_193 rfl) rfl hHi.1 (Nat.le_of_ble_eq_true rfl) (Nat.le_of_ble_eq_true rfl) (Nat.le_of_ble_eq_true rfl) (q_remC hC) (fun r M2 z2 hq => ?_) (fun E M2 z2 hq => by obtain ⟨hq, -⟩ := hq; cases hq)
  obtain ⟨hr, hC2, hX2⟩ := hq
  cases hr
  obtain ⟨ho, hF, ⟨ft, hFt⟩, hH, hS, ⟨sc, pl, gr, ti, lv, od, bk, hP⟩, ⟨O, Rq, rc, Cq, hAr⟩, l1, l2⟩ := id hC2
  obtain ⟨R, ln, sg, hA, hRel⟩ := id hF
  obtain ⟨r0, r1, r2, ⟨k3, k4, k5, k6, k7⟩, ⟨s0, s1, s2, s3, s4, s5⟩, m1, m2, m3⟩ := id hRel
  obtain ⟨old, P, rows, fm, fs, ⟨hHi, hsl⟩, hSl, hold, hn14, hfm, hrow, hfs, hsv⟩ := id hH
  refine g_aload_0 dX7_thread_39 ?_
  refine g_get dX7_thread_40 (fX7_12 rfl) ho rfl ?_
  refine g_iload_1 dX7_thread_43 ?_
  refine g_v1 dX7_thread_44 (vX7_210 rfl) rfl hA.1 (Nat.le_of_ble_eq_true rfl) (Nat.le_of_ble_eq_true rfl) (Nat.le_of_ble_eq_true rfl) (q_tryThreadT hF hI hc h20) (fun r M2 z2 hq => ?_) (fun E M2 z2 hq => by obtain ⟨hq, -⟩ := hq; cases hq)
  obtain ⟨hr, hF3, hO3, rfl⟩ := hq
  cases hr
  have ho := (hO3 a (by omega)).trans ho
  obtain ⟨R, ln, sg, hA, hRel⟩ := id hF3
  obtain ⟨r0, r1, r2, ⟨k3, k4, k5, k6, k7⟩, ⟨s0, s1, s2, s3, s4, s5⟩, m1, m2, m3⟩ := id hRel
  refine g_pop dX7_thread_47 rfl ?_
  refine g_aload_0 dX7_thread_48 ?_
  refine g_get dX7_thread_49 (fX7_12 rfl) ho rfl ?_
  refine g_get dX7_thread_52 (fX7_147 rfl) hA.1 rfl ?_
  refine g_iload_1 dX7_thread_55 ?_
  refine g_v1_1 dX7_thread_56 (vX7_151 rfl) rfl hA.2.2.1.1 (Nat.le_of_ble_eq_true rfl) ⟨rfl, rfl⟩ (Nat.le_of_ble_eq_true rfl) (Nat.le_of_ble_eq_true rfl) (c_onCone hA.2.2.1 hc) ?_
  rw [k3 c hc]
  exact g_ireturn rfl rfl dX7_thread_59 (Nat.le_of_ble_eq_true rfl) (Nat.le_of_ble_eq_true rfl) ⟨rfl, hC2.rug hO3 hF3, hX2.tr (CFr.of hO3 (by omega) (by omega))⟩
theorem c_thread_x2 (hC : CInv M a lo z f n h sv len g) (hI : Rng f) (hc : c < 5) (h20 : ¬ nI 20 ≤ f (432 + 5 * c)) : Runs mX7_thread [.ref a, .int (nI c)] M z (gE ISE M z) := by
  obtain ⟨ho, hF, ⟨ft, hFt⟩, hH, hS, ⟨sc, pl, gr, ti, lv, od, bk, hP⟩, ⟨O, Rq, rc, Cq, hAr⟩, l1, l2⟩ := id hC
  obtain ⟨R, ln, sg, hA, hRel⟩ := id hF
  obtain ⟨r0, r1, r2, ⟨k3, k4, k5, k6, k7⟩, ⟨s0, s1, s2, s3, s4, s5⟩, m1, m2, m3⟩ := id hRel
  refine runs_of plX7 rfl (Nat.le_of_ble_eq_true rfl) ?_
  show WP mX7_thread 0 [some (.ref a), some (.int (nI c))] [] M z 0 0 _
  refine g_iload_1 dX7_thread_0 ?_
  refine g_s1_0r dX7_thread_1 (sX7_110 rfl) rfl (Nat.le_of_ble_eq_true rfl) (Nat.le_of_ble_eq_true rfl) (Nat.le_of_ble_eq_true rfl) (c_needColour_ok hc) ?_
  refine g_aload_0 dX7_thread_4 ?_
  refine g_get dX7_thread_5 (fX7_12 rfl) ho rfl ?_
  refine g_get dX7_thread_8 (fX7_147 rfl) hA.1 rfl ?_
  refine g_iload_1 dX7_thread_11 ?_
  refine g_v1_1 dX7_thread_12 (vX7_205 rfl) rfl hA.2.2.1.1 (Nat.le_of_ble_eq_true rfl) ⟨rfl, rfl⟩ (Nat.le_of_ble_eq_true rfl) (Nat.le_of_ble_eq_true rfl) (c_hasEnd hA.2.2.1 hc) ?_
  rw [k3 c hc]
  refine g_if_neB (tgt := 28) dX7_thread_15 (by decide)  (fun h15 => absurd (of_decide_eq_true h15) h20) (fun _ => ?_)
  exact g_throw (tX7_208 rfl) rfl dX7_thread_18 dX7_thread_21 (Or.inl ⟨dX7_thread_22, dX7_thread_24, dX7_thread_27⟩) (Nat.le_of_ble_eq_true rfl) (Nat.le_of_ble_eq_true rfl) (Nat.le_of_ble_eq_true rfl) (Nat.le_of_ble_eq_true rfl) (fun z2 hz2 => ⟨rfl, rfl, hz2⟩)
theorem c_cut (hC : CInv M a lo z f n h sv len g) (hI : Rng f) (ht : 0 < tno f) : Runs mX7_cut [.ref a] M z (CQ (some (.int (nI (tno f - 1)))) M a lo (f_cut f) (remN n) (remH n h f) sv len g z) := by
  obtain ⟨ho, hF, ⟨ft, hFt⟩, hH, hS, ⟨sc, pl, gr, ti, lv, od, bk, hP⟩, ⟨O, Rq, rc, Cq, hAr⟩, l1, l2⟩ := id hC
  obtain ⟨R, ln, sg, hA, hRel⟩ := id hF
  obtain ⟨r0, r1, r2, ⟨k3, k4, k5, k6, k7⟩, ⟨s0, s1, s2, s3, s4, s5⟩, m1, m2, m3⟩ := id hRel
  obtain ⟨old, P, rows, fm, fs, ⟨hHi, hsl⟩, hSl, hold, hn14, hfm, hrow, hfs, hsv⟩ := id hH
  have htl := hI.tlt
  refine runs_of plX7 rfl (Nat.le_of_ble_eq_true rfl) ?_
  show WP mX7_cut 0 [some (.ref a), none] [] M z 0 0 _
  refine g_aload_0 dX7_cut_0 ?_
  refine g_v0_0r dX7_cut_1 (vX7_213 rfl) rfl ho (Nat.le_of_ble_eq_true rfl) (Nat.le_of_ble_eq_true rfl) (Nat.le_of_ble_eq_true rfl) (c_needThr_ok hC hI ht) ?_
  refine g_aload_0 dX7_cut_4 ?_
  refine g_get dX7_cut_5 (fX7_26 rfl) ho rfl ?_
  refine g_aload_0 dX7_cut_8 ?_
  refine g_get dX7_cut_9 (fX7_12 rfl) ho rfl ?_
  refine g_v1 dX7_cut_12 (vX7_193 rfl) rfl hHi.1 (Nat.le_of_ble_eq_true rfl) (Nat.le_of_ble_eq_true rfl) (Nat.le_of_ble_eq_true rfl) (q_remC hC) (fun r M2 z2 hq => ?_) (fun E M2 z2 hq => by obtain ⟨hq, -⟩ := hq; cases hq)
  obtain ⟨hr, hC2, hX2⟩ := hq
  cases hr
  obtain ⟨ho, hF, ⟨ft, hFt⟩, hH, hS, ⟨sc, pl, gr, ti, lv, od, bk, hP⟩, ⟨O, Rq, rc, Cq, hAr⟩, l1, l2⟩ := id hC2
  obtain ⟨R, ln, sg, hA, hRel⟩ := id hF
  obtain ⟨r0, r1, r2, ⟨k3, k4, k5, k6, k7⟩, ⟨s0, s1, s2, s3, s4, s5⟩, m1, m2, m3⟩ := id hRel
  obtain ⟨old, P, rows, fm, fs, ⟨hHi, hsl⟩, hSl, hold, hn14, hfm, hrow, hfs, hsv⟩ := id hH
  refine g_aload_0 dX7_cut_15 ?_
  refine g_get dX7_cut_16 (fX7_12 rfl) ho rfl ?_
  refine g_get dX7_cut_19 (fX7_130 rfl) hA.1 rfl ?_
  rw [s2, hI.thr (c := tno f - 1) (by omega)]
  refine g_istore_1 rfl dX7_cut_22 ?_
  refine g_aload_0 dX7_cut_23 ?_
  refine g_get dX7_cut_24 (fX7_12 rfl) ho rfl ?_
  refine g_v0 dX7_cut_27 (vX7_216 rfl) rfl hA.1 (Nat.le_of_ble_eq_true rfl) (Nat.le_of_ble_eq_true rfl) (Nat.le_of_ble_eq_true rfl) (q_tryCutT hF hI ht) (fun r M2 z2 hq => ?_) (fun E M2 z2 hq => by obtain ⟨hq, -⟩ := hq; cases hq)
  obtain ⟨hr, hF3, hO3, rfl⟩ := hq
  cases hr
  refine g_pop dX7_cut_30 rfl ?_
  refine g_iload_1 dX7_cut_31 ?_
  exact g_ireturn rfl rfl dX7_cut_32 (Nat.le_of_ble_eq_true rfl) (Nat.le_of_ble_eq_true rfl) ⟨rfl, hC2.rug hO3 hF3, hX2.tr (CFr.of hO3 (by omega) (by omega))⟩
theorem c_cut_x1 (hC : CInv M a lo z f n h sv len g) (hI : Rng f) (ht : tno f = 0) : Runs mX7_cut [.ref a] M z (gE ISE M z) := by
  obtain ⟨ho, hF, ⟨ft, hFt⟩, hH, hS, ⟨sc, pl, gr, ti, lv, od, bk, hP⟩, ⟨O, Rq, rc, Cq, hAr⟩, l1, l2⟩ := id hC
  obtain ⟨R, ln, sg, hA, hRel⟩ := id hF
  obtain ⟨r0, r1, r2, ⟨k3, k4, k5, k6, k7⟩, ⟨s0, s1, s2, s3, s4, s5⟩, m1, m2, m3⟩ := id hRel
  refine runs_of plX7 rfl (Nat.le_of_ble_eq_true rfl) ?_
  show WP mX7_cut 0 [some (.ref a), none] [] M z 0 0 _
  refine g_aload_0 dX7_cut_0 ?_
  refine g_v0_x dX7_cut_1 (vX7_213 rfl) rfl ho (Nat.le_of_ble_eq_true rfl) (Nat.le_of_ble_eq_true rfl) (Nat.le_of_ble_eq_true rfl) (c_needThr_x hC hI ht) (fun z2 hz2 => ?_)
  exact x_out rfl (Nat.le_of_ble_eq_true rfl) (Nat.le_of_ble_eq_true rfl) ⟨rfl, rfl, hz2⟩
theorem c_ease (hC : CInv M a lo z f n h sv len g) (hI : Rng f) (ht : 0 < tno f) : Runs mX7_ease [.ref a] M z (CQ (some (.int (f 461))) M a lo (f_ease f) (remN n) (remH n h f) sv len g z) := by
  obtain ⟨ho, hF, ⟨ft, hFt⟩, hH, hS, ⟨sc, pl, gr, ti, lv, od, bk, hP⟩, ⟨O, Rq, rc, Cq, hAr⟩, l1, l2⟩ := id hC
  obtain ⟨R, ln, sg, hA, hRel⟩ := id hF
  obtain ⟨r0, r1, r2, ⟨k3, k4, k5, k6, k7⟩, ⟨s0, s1, s2, s3, s4, s5⟩, m1, m2, m3⟩ := id hRel
  obtain ⟨old, P, rows, fm, fs, ⟨hHi, hsl⟩, hSl, hold, hn14, hfm, hrow, hfs, hsv⟩ := id hH
  refine runs_of plX7 rfl (Nat.le_of_ble_eq_true rfl) ?_
  show WP mX7_ease 0 [some (.ref a), none] [] M z 0 0 _
  refine g_aload_0 dX7_ease_0 ?_
  refine g_v0_0r dX7_ease_1 (vX7_213 rfl) rfl ho (Nat.le_of_ble_eq_true rfl) (Nat.le_of_ble_eq_true rfl) (Nat.le_of_ble_eq_true rfl) (c_needThr_ok hC hI ht) ?_
  refine g_aload_0 dX7_ease_4 ?_
  refine g_get dX7_ease_5 (fX7_26 rfl) ho rfl ?_
  refine g_aload_0 dX7_ease_8 ?_
  refine g_get dX7_ease_9 (fX7_12 rfl) ho rfl ?_
  refine g_v1 dX7_ease_12 (vX7_193 rfl) rfl hHi.1 (Nat.le_of_ble_eq_true rfl) (Nat.le_of_ble_eq_true rfl) (Nat.le_of_ble_eq_true rfl) (q_remC hC) (fun r M2 z2 hq => ?_) (fun E M2 z2 hq => by obtain ⟨hq, -⟩ := hq; cases hq)
  obtain ⟨hr, hC2, hX2⟩ := hq
  cases hr
  obtain ⟨ho, hF, ⟨ft, hFt⟩, hH, hS, ⟨sc, pl, gr, ti, lv, od, bk, hP⟩, ⟨O, Rq, rc, Cq, hAr⟩, l1, l2⟩ := id hC2
  obtain ⟨R, ln, sg, hA, hRel⟩ := id hF
  obtain ⟨r0, r1, r2, ⟨k3, k4, k5, k6, k7⟩, ⟨s0, s1, s2, s3, s4, s5⟩, m1, m2, m3⟩ := id hRel
  obtain ⟨old, P, rows, fm, fs, ⟨hHi, hsl⟩, hSl, hold, hn14, hfm, hrow, hfs, hsv⟩ := id hH
  refine g_aload_0 dX7_ease_15 ?_
  refine g_get dX7_ease_16 (fX7_12 rfl) ho rfl ?_
  refine g_get dX7_ease_19 (fX7_136 rfl) hA.1 rfl ?_
  rw [s4]
  refine g_istore_1 rfl dX7_ease_22 ?_
  refine g_aload_0 dX7_ease_23 ?_
  refine g_get dX7_ease_24 (fX7_12 rfl) ho rfl ?_
  refine g_v0 dX7_ease_27 (vX7_233 rfl) rfl hA.1 (Nat.le_of_ble_eq_true rfl) (Nat.le_of_ble_eq_true rfl) (Nat.le_of_ble_eq_true rfl) (q_tryEaseT hF hI ht) (fun r M2 z2 hq => ?_) (fun E M2 z2 hq => by obtain ⟨hq, -⟩ := hq; cases hq)
  obtain ⟨hr, hF3, hO3, rfl⟩ := hq
  cases hr
  refine g_pop dX7_ease_30 rfl ?_
  refine g_iload_1 dX7_ease_31 ?_
  exact g_ireturn rfl rfl dX7_ease_32 (Nat.le_of_ble_eq_true rfl) (Nat.le_of_ble_eq_true rfl) ⟨rfl, hC2.rug hO3 hF3, hX2.tr (CFr.of hO3 (by omega) (by omega))⟩
theorem c_ease_x1 (hC : CInv M a lo z f n h sv len g) (hI : Rng f) (ht : tno f = 0) : Runs mX7_ease [.ref a] M z (gE ISE M z) := by
  obtain ⟨ho, hF, ⟨ft, hFt⟩, hH, hS, ⟨sc, pl, gr, ti, lv, od, bk, hP⟩, ⟨O, Rq, rc, Cq, hAr⟩, l1, l2⟩ := id hC
  obtain ⟨R, ln, sg, hA, hRel⟩ := id hF
  obtain ⟨r0, r1, r2, ⟨k3, k4, k5, k6, k7⟩, ⟨s0, s1, s2, s3, s4, s5⟩, m1, m2, m3⟩ := id hRel
  refine runs_of plX7 rfl (Nat.le_of_ble_eq_true rfl) ?_
  show WP mX7_ease 0 [some (.ref a), none] [] M z 0 0 _
  refine g_aload_0 dX7_ease_0 ?_
  refine g_v0_x dX7_ease_1 (vX7_213 rfl) rfl ho (Nat.le_of_ble_eq_true rfl) (Nat.le_of_ble_eq_true rfl) (Nat.le_of_ble_eq_true rfl) (c_needThr_x hC hI ht) (fun z2 hz2 => ?_)
  exact x_out rfl (Nat.le_of_ble_eq_true rfl) (Nat.le_of_ble_eq_true rfl) ⟨rfl, rfl, hz2⟩
theorem c_sew (hC : CInv M a lo z f n h sv len g) (hI : Rng f) (h1 : 1 ≤ m) (h2 : m ≤ 12) (h0 : f_noStitch f = 0) : Runs mX7_sew [.ref a, .int (nI m)] M z (CQ (some (.int (nI (f_sew m f).2))) M a lo ((f_sew m f).1) (remN n) (remH n h f) sv len g z) := by
  obtain ⟨ho, hF, ⟨ft, hFt⟩, hH, hS, ⟨sc, pl, gr, ti, lv, od, bk, hP⟩, ⟨O, Rq, rc, Cq, hAr⟩, l1, l2⟩ := id hC
  obtain ⟨R, ln, sg, hA, hRel⟩ := id hF
  obtain ⟨r0, r1, r2, ⟨k3, k4, k5, k6, k7⟩, ⟨s0, s1, s2, s3, s4, s5⟩, m1, m2, m3⟩ := id hRel
  obtain ⟨old, P, rows, fm, fs, ⟨hHi, hsl⟩, hSl, hold, hn14, hfm, hrow, hfs, hsv⟩ := id hH
  have hst := noSt_lt f
  refine runs_of plX7 rfl (Nat.le_of_ble_eq_true rfl) ?_
  show WP mX7_sew 0 [some (.ref a), some (.int (nI m))] [] M z 0 0 _
  refine g_iload_1 dX7_sew_0 ?_
  refine g_iconst (v := nI 1) dX7_sew_1 rfl ?_
  refine g_bipush (v := nI 12) dX7_sew_2 rfl ?_
  refine g_s3_0r dX7_sew_4 (sX7_51 rfl) rfl (Nat.le_of_ble_eq_true rfl) (Nat.le_of_ble_eq_true rfl) (Nat.le_of_ble_eq_true rfl) (c_needRange_ok (nI_nlt (by omega) (by omega)) (nI_le (by omega) (by decide))) ?_
  refine g_aload_0 dX7_sew_7 ?_
  refine g_get dX7_sew_8 (fX7_12 rfl) ho rfl ?_
  refine g_v0_1 dX7_sew_11 (vX7_219 rfl) rfl hA.1 (Nat.le_of_ble_eq_true rfl) ⟨rfl, rfl⟩ (Nat.le_of_ble_eq_true rfl) (Nat.le_of_ble_eq_true rfl) (q_reasonStitch hF hI) ?_
  refine g_if_eqN (tgt := 27) dX7_sew_14 (by decide) (by omega) (fun _ => ?_) (fun h14 => absurd h0 h14)
  refine g_aload_0 dX7_sew_27 ?_
  refine g_get dX7_sew_28 (fX7_26 rfl) ho rfl ?_
  refine g_aload_0 dX7_sew_31 ?_
  refine g_get dX7_sew_32 (fX7_12 rfl) ho rfl ?_
  refine g_v1 dX7_sew_35 (vX7_193 rfl) rfl hHi.1 (Nat.le_of_ble_eq_true rfl) (Nat.le_of_ble_eq_true rfl) (Nat.le_of_ble_eq_true rfl) (q_remC hC) (fun r M2 z2 hq => ?_) (fun E M2 z2 hq => by obtain ⟨hq, -⟩ := hq; cases hq)
  obtain ⟨hr, hC2, hX2⟩ := hq
  cases hr
  obtain ⟨ho, hF, ⟨ft, hFt⟩, hH, hS, ⟨sc, pl, gr, ti, lv, od, bk, hP⟩, ⟨O, Rq, rc, Cq, hAr⟩, l1, l2⟩ := id hC2
  obtain ⟨R, ln, sg, hA, hRel⟩ := id hF
  obtain ⟨r0, r1, r2, ⟨k3, k4, k5, k6, k7⟩, ⟨s0, s1, s2, s3, s4, s5⟩, m1, m2, m3⟩ := id hRel
  obtain ⟨old, P, rows, fm, fs, ⟨hHi, hsl⟩, hSl, hold, hn14, hfm, hrow, hfs, hsv⟩ := id hH
  refine g_aload_0 dX7_sew_38 ?_
  refine g_get dX7_sew_39 (fX7_12 rfl) ho rfl ?_
  refine g_iload_1 dX7_sew_42 ?_
  refine g_v1 dX7_sew_43 (vX7_224 rfl) rfl hA.1 (Nat.le_of_ble_eq_true rfl) (Nat.le_of_ble_eq_true rfl) (Nat.le_of_ble_eq_true rfl) (q_sewUpTo hF hI (by omega)) (fun r M2 z2 hq => ?_) (fun E M2 z2 hq => by obtain ⟨hq, -⟩ := hq; cases hq)
  obtain ⟨hr, hF3, hO3, rfl⟩ := hq
  cases hr
  exact g_ireturn rfl rfl dX7_sew_46 (Nat.le_of_ble_eq_true rfl) (Nat.le_of_ble_eq_true rfl) ⟨rfl, hC2.rug hO3 hF3, hX2.tr (CFr.of hO3 (by omega) (by omega))⟩
theorem c_sew_x1 (hC : CInv M a lo z f n h sv len g) (hI : Rng f) (hx : x < nI 1 ∨ nI 12 < x) : Runs mX7_sew [.ref a, .int x] M z (gE IAE M z) := by
  obtain ⟨ho, hF, ⟨ft, hFt⟩, hH, hS, ⟨sc, pl, gr, ti, lv, od, bk, hP⟩, ⟨O, Rq, rc, Cq, hAr⟩, l1, l2⟩ := id hC
  obtain ⟨R, ln, sg, hA, hRel⟩ := id hF
  obtain ⟨r0, r1, r2, ⟨k3, k4, k5, k6, k7⟩, ⟨s0, s1, s2, s3, s4, s5⟩, m1, m2, m3⟩ := id hRel
  refine runs_of plX7 rfl (Nat.le_of_ble_eq_true rfl) ?_
  show WP mX7_sew 0 [some (.ref a), some (.int x)] [] M z 0 0 _
  refine g_iload_1 dX7_sew_0 ?_
  refine g_iconst (v := nI 1) dX7_sew_1 rfl ?_
  refine g_bipush (v := nI 12) dX7_sew_2 rfl ?_
  refine g_s3_x dX7_sew_4 (sX7_51 rfl) rfl (Nat.le_of_ble_eq_true rfl) (Nat.le_of_ble_eq_true rfl) (Nat.le_of_ble_eq_true rfl) (c_needRange_x hx) (fun z2 hz2 => ?_)
  exact x_out rfl (Nat.le_of_ble_eq_true rfl) (Nat.le_of_ble_eq_true rfl) ⟨rfl, rfl, hz2⟩
theorem c_sew_x2 (hC : CInv M a lo z f n h sv len g) (hI : Rng f) (h1 : 1 ≤ m) (h2 : m ≤ 12) (h0 : ¬ f_noStitch f = 0) : Runs mX7_sew [.ref a, .int (nI m)] M z (gE ISE M z) := by
  obtain ⟨ho, hF, ⟨ft, hFt⟩, hH, hS, ⟨sc, pl, gr, ti, lv, od, bk, hP⟩, ⟨O, Rq, rc, Cq, hAr⟩, l1, l2⟩ := id hC
  obtain ⟨R, ln, sg, hA, hRel⟩ := id hF
  obtain ⟨r0, r1, r2, ⟨k3, k4, k5, k6, k7⟩, ⟨s0, s1, s2, s3, s4, s5⟩, m1, m2, m3⟩ := id hRel
  have hst := noSt_lt f
  refine runs_of plX7 rfl (Nat.le_of_ble_eq_true rfl) ?_
  show WP mX7_sew 0 [some (.ref a), some (.int (nI m))] [] M z 0 0 _
  refine g_iload_1 dX7_sew_0 ?_
  refine g_iconst (v := nI 1) dX7_sew_1 rfl ?_
  refine g_bipush (v := nI 12) dX7_sew_2 rfl ?_
  refine g_s3_0r dX7_sew_4 (sX7_51 rfl) rfl (Nat.le_of_ble_eq_true rfl) (Nat.le_of_ble_eq_true rfl) (Nat.le_of_ble_eq_true rfl) (c_needRange_ok (nI_nlt (by omega) (by omega)) (nI_le (by omega) (by decide))) ?_
  refine g_aload_0 dX7_sew_7 ?_
  refine g_get dX7_sew_8 (fX7_12 rfl) ho rfl ?_
  refine g_v0_1 dX7_sew_11 (vX7_219 rfl) rfl hA.1 (Nat.le_of_ble_eq_true rfl) ⟨rfl, rfl⟩ (Nat.le_of_ble_eq_true rfl) (Nat.le_of_ble_eq_true rfl) (q_reasonStitch hF hI) ?_
  refine g_if_eqN (tgt := 27) dX7_sew_14 (by decide) (by omega) (fun h14 => absurd h14 h0) (fun _ => ?_)
  exact g_throw (tX7_222 rfl) rfl dX7_sew_17 dX7_sew_20 (Or.inl ⟨dX7_sew_21, dX7_sew_23, dX7_sew_26⟩) (Nat.le_of_ble_eq_true rfl) (Nat.le_of_ble_eq_true rfl) (Nat.le_of_ble_eq_true rfl) (Nat.le_of_ble_eq_true rfl) (fun z2 hz2 => ⟨rfl, rfl, hz2⟩)
theorem c_jump (hC : CInv M a lo z f n h sv len g) (hI : Rng f) (h1 : 1 ≤ m) (h2 : m ≤ 12) : Runs mX7_jump [.ref a, .int (nI m)] M z (CQ (some (.int (nI (f_jump m f).2))) M a lo ((f_jump m f).1) (remN n) (remH n h f) sv len g z) := by
  obtain ⟨ho, hF, ⟨ft, hFt⟩, hH, hS, ⟨sc, pl, gr, ti, lv, od, bk, hP⟩, ⟨O, Rq, rc, Cq, hAr⟩, l1, l2⟩ := id hC
  obtain ⟨R, ln, sg, hA, hRel⟩ := id hF
  obtain ⟨r0, r1, r2, ⟨k3, k4, k5, k6, k7⟩, ⟨s0, s1, s2, s3, s4, s5⟩, m1, m2, m3⟩ := id hRel
  obtain ⟨old, P, rows, fm, fs, ⟨hHi, hsl⟩, hSl, hold, hn14, hfm, hrow, hfs, hsv⟩ := id hH
  refine runs_of plX7 rfl (Nat.le_of_ble_eq_true rfl) ?_
  show WP mX7_jump 0 [some (.ref a), some (.int (nI m))] [] M z 0 0 _
  refine g_iload_1 dX7_jump_0 ?_
  refine g_iconst (v := nI 1) dX7_jump_1 rfl ?_
  refine g_bipush (v := nI 12) dX7_jump_2 rfl ?_
  refine g_s3_0r dX7_jump_4 (sX7_51 rfl) rfl (Nat.le_of_ble_eq_true rfl) (Nat.le_of_ble_eq_true rfl) (Nat.le_of_ble_eq_true rfl) (c_needRange_ok (nI_nlt (by omega) (by omega)) (nI_le (by omega) (by decide))) ?_
  refine g_aload_0 dX7_jump_7 ?_
  refine g_get dX7_jump_8 (fX7_26 rfl) ho rfl ?_
  refine g_aload_0 dX7_jump_11 ?_
  refine g_get dX7_jump_12 (fX7_12 rfl) ho rfl ?_
  refine g_v1 dX7_jump_15 (vX7_193 rfl) rfl hHi.1 (Nat.le_of_ble_eq_true rfl) (Nat.le_of_ble_eq_true rfl) (Nat.le_of_ble_eq_true rfl) (q_remC hC) (fun r M2 z2 hq => ?_) (fun E M2 z2 hq => by obtain ⟨hq, -⟩ := hq; cases hq)
  obtain ⟨hr, hC2, hX2⟩ := hq
  cases hr
  obtain ⟨ho, hF, ⟨ft, hFt⟩, hH, hS, ⟨sc, pl, gr, ti, lv, od, bk, hP⟩, ⟨O, Rq, rc, Cq, hAr⟩, l1, l2⟩ := id hC2
  obtain ⟨R, ln, sg, hA, hRel⟩ := id hF
  obtain ⟨r0, r1, r2, ⟨k3, k4, k5, k6, k7⟩, ⟨s0, s1, s2, s3, s4, s5⟩, m1, m2, m3⟩ := id hRel
  obtain ⟨old, P, rows, fm, fs, ⟨hHi, hsl⟩, hSl, hold, hn14, hfm, hrow, hfs, hsv⟩ := id hH
  refine g_aload_0 dX7_jump_18 ?_
  refine g_get dX7_jump_19 (fX7_12 rfl) ho rfl ?_
  refine g_iload_1 dX7_jump_22 ?_
  refine g_v1 dX7_jump_23 (vX7_227 rfl) rfl hA.1 (Nat.le_of_ble_eq_true rfl) (Nat.le_of_ble_eq_true rfl) (Nat.le_of_ble_eq_true rfl) (q_jumpOver hF hI (by omega)) (fun r M2 z2 hq => ?_) (fun E M2 z2 hq => by obtain ⟨hq, -⟩ := hq; cases hq)
  obtain ⟨hr, hF3, hO3, rfl⟩ := hq
  cases hr
  exact g_ireturn rfl rfl dX7_jump_26 (Nat.le_of_ble_eq_true rfl) (Nat.le_of_ble_eq_true rfl) ⟨rfl, hC2.rug hO3 hF3, hX2.tr (CFr.of hO3 (by omega) (by omega))⟩
theorem c_jump_x1 (hC : CInv M a lo z f n h sv len g) (hI : Rng f) (hx : x < nI 1 ∨ nI 12 < x) : Runs mX7_jump [.ref a, .int x] M z (gE IAE M z) := by
  obtain ⟨ho, hF, ⟨ft, hFt⟩, hH, hS, ⟨sc, pl, gr, ti, lv, od, bk, hP⟩, ⟨O, Rq, rc, Cq, hAr⟩, l1, l2⟩ := id hC
  obtain ⟨R, ln, sg, hA, hRel⟩ := id hF
  obtain ⟨r0, r1, r2, ⟨k3, k4, k5, k6, k7⟩, ⟨s0, s1, s2, s3, s4, s5⟩, m1, m2, m3⟩ := id hRel
  refine runs_of plX7 rfl (Nat.le_of_ble_eq_true rfl) ?_
  show WP mX7_jump 0 [some (.ref a), some (.int x)] [] M z 0 0 _
  refine g_iload_1 dX7_jump_0 ?_
  refine g_iconst (v := nI 1) dX7_jump_1 rfl ?_
  refine g_bipush (v := nI 12) dX7_jump_2 rfl ?_
  refine g_s3_x dX7_jump_4 (sX7_51 rfl) rfl (Nat.le_of_ble_eq_true rfl) (Nat.le_of_ble_eq_true rfl) (Nat.le_of_ble_eq_true rfl) (c_needRange_x hx) (fun z2 hz2 => ?_)
  exact x_out rfl (Nat.le_of_ble_eq_true rfl) (Nat.le_of_ble_eq_true rfl) ⟨rfl, rfl, hz2⟩
theorem c_turnLeft (hC : CInv M a lo z f n h sv len g) (hI : Rng f) : Runs mX7_turnLeft [.ref a] M z (CQ (some (.int (f_turn f 3 458))) M a lo (f_turn f 3) (remN n) (remH n h f) sv len g z) := by
  obtain ⟨ho, hF, ⟨ft, hFt⟩, hH, hS, ⟨sc, pl, gr, ti, lv, od, bk, hP⟩, ⟨O, Rq, rc, Cq, hAr⟩, l1, l2⟩ := id hC
  obtain ⟨R, ln, sg, hA, hRel⟩ := id hF
  obtain ⟨r0, r1, r2, ⟨k3, k4, k5, k6, k7⟩, ⟨s0, s1, s2, s3, s4, s5⟩, m1, m2, m3⟩ := id hRel
  obtain ⟨old, P, rows, fm, fs, ⟨hHi, hsl⟩, hSl, hold, hn14, hfm, hrow, hfs, hsv⟩ := id hH
  refine runs_of plX7 rfl (Nat.le_of_ble_eq_true rfl) ?_
  show WP mX7_turnLeft 0 [some (.ref a)] [] M z 0 0 _
  refine g_aload_0 dX7_turnLeft_0 ?_
  refine g_get dX7_turnLeft_1 (fX7_26 rfl) ho rfl ?_
  refine g_aload_0 dX7_turnLeft_4 ?_
  refine g_get dX7_turnLeft_5 (fX7_12 rfl) ho rfl ?_
  refine g_v1 dX7_turnLeft_8 (vX7_193 rfl) rfl hHi.1 (Nat.le_of_ble_eq_true rfl) (Nat.le_of_ble_eq_true rfl) (Nat.le_of_ble_eq_true rfl) (q_remC hC) (fun r M2 z2 hq => ?_) (fun E M2 z2 hq => by obtain ⟨hq, -⟩ := hq; cases hq)
  obtain ⟨hr, hC2, hX2⟩ := hq
  cases hr
  obtain ⟨ho, hF, ⟨ft, hFt⟩, hH, hS, ⟨sc, pl, gr, ti, lv, od, bk, hP⟩, ⟨O, Rq, rc, Cq, hAr⟩, l1, l2⟩ := id hC2
  obtain ⟨R, ln, sg, hA, hRel⟩ := id hF
  obtain ⟨r0, r1, r2, ⟨k3, k4, k5, k6, k7⟩, ⟨s0, s1, s2, s3, s4, s5⟩, m1, m2, m3⟩ := id hRel
  obtain ⟨old, P, rows, fm, fs, ⟨hHi, hsl⟩, hSl, hold, hn14, hfm, hrow, hfs, hsv⟩ := id hH
  refine g_aload_0 dX7_turnLeft_11 ?_
  refine g_get dX7_turnLeft_12 (fX7_12 rfl) ho rfl ?_
  refine g_iconst (v := -1) dX7_turnLeft_15 rfl ?_
  refine g_v1 dX7_turnLeft_16 (vX7_230 rfl) rfl hA.1 (Nat.le_of_ble_eq_true rfl) (Nat.le_of_ble_eq_true rfl) (Nat.le_of_ble_eq_true rfl) (q_turnm hF hI) (fun r M2 z2 hq => ?_) (fun E M2 z2 hq => by obtain ⟨hq, -⟩ := hq; cases hq)
  obtain ⟨hr, hF3, hO3, rfl⟩ := hq
  cases hr
  have ho := (hO3 a (by omega)).trans ho
  obtain ⟨R, ln, sg, hA, hRel⟩ := id hF3
  obtain ⟨r0, r1, r2, ⟨k3, k4, k5, k6, k7⟩, ⟨s0, s1, s2, s3, s4, s5⟩, m1, m2, m3⟩ := id hRel
  refine g_aload_0 dX7_turnLeft_19 ?_
  refine g_get dX7_turnLeft_20 (fX7_12 rfl) ho rfl ?_
  refine g_get dX7_turnLeft_23 (fX7_127 rfl) hA.1 rfl ?_
  rw [s1]
  exact g_ireturn rfl rfl dX7_turnLeft_26 (Nat.le_of_ble_eq_true rfl) (Nat.le_of_ble_eq_true rfl) ⟨rfl, hC2.rug hO3 hF3, hX2.tr (CFr.of hO3 (by omega) (by omega))⟩
theorem c_turnRight (hC : CInv M a lo z f n h sv len g) (hI : Rng f) : Runs mX7_turnRight [.ref a] M z (CQ (some (.int (f_turn f 1 458))) M a lo (f_turn f 1) (remN n) (remH n h f) sv len g z) := by
  obtain ⟨ho, hF, ⟨ft, hFt⟩, hH, hS, ⟨sc, pl, gr, ti, lv, od, bk, hP⟩, ⟨O, Rq, rc, Cq, hAr⟩, l1, l2⟩ := id hC
  obtain ⟨R, ln, sg, hA, hRel⟩ := id hF
  obtain ⟨r0, r1, r2, ⟨k3, k4, k5, k6, k7⟩, ⟨s0, s1, s2, s3, s4, s5⟩, m1, m2, m3⟩ := id hRel
  obtain ⟨old, P, rows, fm, fs, ⟨hHi, hsl⟩, hSl, hold, hn14, hfm, hrow, hfs, hsv⟩ := id hH
  refine runs_of plX7 rfl (Nat.le_of_ble_eq_true rfl) ?_
  show WP mX7_turnRight 0 [some (.ref a)] [] M z 0 0 _
  refine g_aload_0 dX7_turnRight_0 ?_
  refine g_get dX7_turnRight_1 (fX7_26 rfl) ho rfl ?_
  refine g_aload_0 dX7_turnRight_4 ?_
  refine g_get dX7_turnRight_5 (fX7_12 rfl) ho rfl ?_
  refine g_v1 dX7_turnRight_8 (vX7_193 rfl) rfl hHi.1 (Nat.le_of_ble_eq_true rfl) (Nat.le_of_ble_eq_true rfl) (Nat.le_of_ble_eq_true rfl) (q_remC hC) (fun r M2 z2 hq => ?_) (fun E M2 z2 hq => by obtain ⟨hq, -⟩ := hq; cases hq)
  obtain ⟨hr, hC2, hX2⟩ := hq
  cases hr
  obtain ⟨ho, hF, ⟨ft, hFt⟩, hH, hS, ⟨sc, pl, gr, ti, lv, od, bk, hP⟩, ⟨O, Rq, rc, Cq, hAr⟩, l1, l2⟩ := id hC2
  obtain ⟨R, ln, sg, hA, hRel⟩ := id hF
  obtain ⟨r0, r1, r2, ⟨k3, k4, k5, k6, k7⟩, ⟨s0, s1, s2, s3, s4, s5⟩, m1, m2, m3⟩ := id hRel
  obtain ⟨old, P, rows, fm, fs, ⟨hHi, hsl⟩, hSl, hold, hn14, hfm, hrow, hfs, hsv⟩ := id hH
  refine g_aload_0 dX7_turnRight_11 ?_
  refine g_get dX7_turnRight_12 (fX7_12 rfl) ho rfl ?_
  refine g_iconst (v := nI 1) dX7_turnRight_15 rfl ?_
  refine g_v1 dX7_turnRight_16 (vX7_230 rfl) rfl hA.1 (Nat.le_of_ble_eq_true rfl) (Nat.le_of_ble_eq_true rfl) (Nat.le_of_ble_eq_true rfl) (q_turn1 hF hI) (fun r M2 z2 hq => ?_) (fun E M2 z2 hq => by obtain ⟨hq, -⟩ := hq; cases hq)
  obtain ⟨hr, hF3, hO3, rfl⟩ := hq
  cases hr
  have ho := (hO3 a (by omega)).trans ho
  obtain ⟨R, ln, sg, hA, hRel⟩ := id hF3
  obtain ⟨r0, r1, r2, ⟨k3, k4, k5, k6, k7⟩, ⟨s0, s1, s2, s3, s4, s5⟩, m1, m2, m3⟩ := id hRel
  refine g_aload_0 dX7_turnRight_19 ?_
  refine g_get dX7_turnRight_20 (fX7_12 rfl) ho rfl ?_
  refine g_get dX7_turnRight_23 (fX7_127 rfl) hA.1 rfl ?_
  rw [s1]
  exact g_ireturn rfl rfl dX7_turnRight_26 (Nat.le_of_ble_eq_true rfl) (Nat.le_of_ble_eq_true rfl) ⟨rfl, hC2.rug hO3 hF3, hX2.tr (CFr.of hO3 (by omega) (by omega))⟩
theorem c_setHeight (hC : CInv M a lo z f n h sv len g) (hI : Rng f) (h1 : 1 ≤ m) (h2 : m ≤ 9) : Runs mX7_setHeight [.ref a, .int (nI m)] M z (CQ (some (.int (f 460))) M a lo (upd f 460 (nI m)) (remN n) (remH n h f) sv len g z) := by
  obtain ⟨ho, hF, ⟨ft, hFt⟩, hH, hS, ⟨sc, pl, gr, ti, lv, od, bk, hP⟩, ⟨O, Rq, rc, Cq, hAr⟩, l1, l2⟩ := id hC
  obtain ⟨R, ln, sg, hA, hRel⟩ := id hF
  obtain ⟨r0, r1, r2, ⟨k3, k4, k5, k6, k7⟩, ⟨s0, s1, s2, s3, s4, s5⟩, m1, m2, m3⟩ := id hRel
  obtain ⟨old, P, rows, fm, fs, ⟨hHi, hsl⟩, hSl, hold, hn14, hfm, hrow, hfs, hsv⟩ := id hH
  refine runs_of plX7 rfl (Nat.le_of_ble_eq_true rfl) ?_
  show WP mX7_setHeight 0 [some (.ref a), some (.int (nI m)), none] [] M z 0 0 _
  refine g_iload_1 dX7_setHeight_0 ?_
  refine g_iconst (v := nI 1) dX7_setHeight_1 rfl ?_
  refine g_bipush (v := nI 9) dX7_setHeight_2 rfl ?_
  refine g_s3_0r dX7_setHeight_4 (sX7_51 rfl) rfl (Nat.le_of_ble_eq_true rfl) (Nat.le_of_ble_eq_true rfl) (Nat.le_of_ble_eq_true rfl) (c_needRange_ok (nI_nlt (by omega) (by omega)) (nI_le (by omega) (by decide))) ?_
  refine g_aload_0 dX7_setHeight_7 ?_
  refine g_get dX7_setHeight_8 (fX7_26 rfl) ho rfl ?_
  refine g_aload_0 dX7_setHeight_11 ?_
  refine g_get dX7_setHeight_12 (fX7_12 rfl) ho rfl ?_
  refine g_v1 dX7_setHeight_15 (vX7_193 rfl) rfl hHi.1 (Nat.le_of_ble_eq_true rfl) (Nat.le_of_ble_eq_true rfl) (Nat.le_of_ble_eq_true rfl) (q_remC hC) (fun r M2 z2 hq => ?_) (fun E M2 z2 hq => by obtain ⟨hq, -⟩ := hq; cases hq)
  obtain ⟨hr, hC2, hX2⟩ := hq
  cases hr
  obtain ⟨ho, hF, ⟨ft, hFt⟩, hH, hS, ⟨sc, pl, gr, ti, lv, od, bk, hP⟩, ⟨O, Rq, rc, Cq, hAr⟩, l1, l2⟩ := id hC2
  obtain ⟨R, ln, sg, hA, hRel⟩ := id hF
  obtain ⟨r0, r1, r2, ⟨k3, k4, k5, k6, k7⟩, ⟨s0, s1, s2, s3, s4, s5⟩, m1, m2, m3⟩ := id hRel
  obtain ⟨old, P, rows, fm, fs, ⟨hHi, hsl⟩, hSl, hold, hn14, hfm, hrow, hfs, hsv⟩ := id hH
  refine g_aload_0 dX7_setHeight_18 ?_
  refine g_get dX7_setHeight_19 (fX7_12 rfl) ho rfl ?_
  refine g_get dX7_setHeight_22 (fX7_133 rfl) hA.1 rfl ?_
  rw [s3]
  refine g_istore_2 rfl dX7_setHeight_25 ?_
  refine g_aload_0 dX7_setHeight_26 ?_
  refine g_get dX7_setHeight_27 (fX7_12 rfl) ho rfl ?_
  refine g_iload_1 dX7_setHeight_30 ?_
  refine g_putS (ty := .int) (s := 3) dX7_setHeight_31 (fX7_133 rfl) (by decide) hA (fun M4 hA4 hO4 => ?_)
  have hao4 := hA4.1
  have hco4 := hA4.2.1.1
  have hyo4 := hA4.2.2.1.1
  refine g_iload_2 dX7_setHeight_34 ?_
  exact g_ireturn rfl rfl dX7_setHeight_35 (Nat.le_of_ble_eq_true rfl) (Nat.le_of_ble_eq_true rfl) ⟨rfl, hC2.rug hO4 ⟨_, ln, sg, hA4, hRel.s3⟩, hX2.tr (CFr.of hO4 (by omega) (by omega))⟩
theorem c_setHeight_x1 (hC : CInv M a lo z f n h sv len g) (hI : Rng f) (hx : x < nI 1 ∨ nI 9 < x) : Runs mX7_setHeight [.ref a, .int x] M z (gE IAE M z) := by
  obtain ⟨ho, hF, ⟨ft, hFt⟩, hH, hS, ⟨sc, pl, gr, ti, lv, od, bk, hP⟩, ⟨O, Rq, rc, Cq, hAr⟩, l1, l2⟩ := id hC
  obtain ⟨R, ln, sg, hA, hRel⟩ := id hF
  obtain ⟨r0, r1, r2, ⟨k3, k4, k5, k6, k7⟩, ⟨s0, s1, s2, s3, s4, s5⟩, m1, m2, m3⟩ := id hRel
  refine runs_of plX7 rfl (Nat.le_of_ble_eq_true rfl) ?_
  show WP mX7_setHeight 0 [some (.ref a), some (.int x), none] [] M z 0 0 _
  refine g_iload_1 dX7_setHeight_0 ?_
  refine g_iconst (v := nI 1) dX7_setHeight_1 rfl ?_
  refine g_bipush (v := nI 9) dX7_setHeight_2 rfl ?_
  refine g_s3_x dX7_setHeight_4 (sX7_51 rfl) rfl (Nat.le_of_ble_eq_true rfl) (Nat.le_of_ble_eq_true rfl) (Nat.le_of_ble_eq_true rfl) (c_needRange_x hx) (fun z2 hz2 => ?_)
  exact x_out rfl (Nat.le_of_ble_eq_true rfl) (Nat.le_of_ble_eq_true rfl) ⟨rfl, rfl, hz2⟩
theorem c_place (hC : CInv M a lo z f n h sv len g) (hI : Rng f) (hj : j < 144) (hh : hd < 4) (ht : tno f = 0) : Runs mX7_place [.ref a, .int (nI j), .int (nI hd)] M z (CQ (some (.int (f 457))) M a lo (upd (upd f 457 (nI j)) 458 (nI hd)) (remN n) (remH n h f) sv len g z) := by
  obtain ⟨ho, hF, ⟨ft, hFt⟩, hH, hS, ⟨sc, pl, gr, ti, lv, od, bk, hP⟩, ⟨O, Rq, rc, Cq, hAr⟩, l1, l2⟩ := id hC
  obtain ⟨R, ln, sg, hA, hRel⟩ := id hF
  obtain ⟨r0, r1, r2, ⟨k3, k4, k5, k6, k7⟩, ⟨s0, s1, s2, s3, s4, s5⟩, m1, m2, m3⟩ := id hRel
  obtain ⟨old, P, rows, fm, fs, ⟨hHi, hsl⟩, hSl, hold, hn14, hfm, hrow, hfs, hsv⟩ := id hH
  refine runs_of plX7 rfl (Nat.le_of_ble_eq_true rfl) ?_
  show WP mX7_place 0 [some (.ref a), some (.int (nI j)), some (.int (nI hd)), none] [] M z 0 0 _
  refine g_iload_1 dX7_place_0 ?_
  refine g_s1_0r dX7_place_1 (sX7_74 rfl) rfl (Nat.le_of_ble_eq_true rfl) (Nat.le_of_ble_eq_true rfl) (Nat.le_of_ble_eq_true rfl) (c_needCell_ok hj) ?_
  refine g_iload_2 dX7_place_4 ?_
  refine g_iconst (v := nI 0) dX7_place_5 rfl ?_
  refine g_iconst (v := nI 3) dX7_place_6 rfl ?_
  refine g_s3_0r dX7_place_7 (sX7_51 rfl) rfl (Nat.le_of_ble_eq_true rfl) (Nat.le_of_ble_eq_true rfl) (Nat.le_of_ble_eq_true rfl) (c_needRange_ok (nI_nlt (by omega) (by omega)) (nI_le (by omega) (by decide))) ?_
  refine g_aload_0 dX7_place_10 ?_
  refine g_get dX7_place_11 (fX7_12 rfl) ho rfl ?_
  refine g_get dX7_place_14 (fX7_130 rfl) hA.1 rfl ?_
  rw [s2, hI.thr0 ht]
  refine g_iconst (v := -1) dX7_place_17 rfl ?_
  refine g_icmp_eq (tgt := 31) dX7_place_18 (by decide)  (fun _ => ?_) (fun h18 => absurd rfl h18)
  refine g_aload_0 dX7_place_31 ?_
  refine g_get dX7_place_32 (fX7_26 rfl) ho rfl ?_
  refine g_aload_0 dX7_place_35 ?_
  refine g_get dX7_place_36 (fX7_12 rfl) ho rfl ?_
  refine g_v1 dX7_place_39 (vX7_193 rfl) rfl hHi.1 (Nat.le_of_ble_eq_true rfl) (Nat.le_of_ble_eq_true rfl) (Nat.le_of_ble_eq_true rfl) (q_remC hC) (fun r M2 z2 hq => ?_) (fun E M2 z2 hq => by obtain ⟨hq, -⟩ := hq; cases hq)
  obtain ⟨hr, hC2, hX2⟩ := hq
  cases hr
  obtain ⟨ho, hF, ⟨ft, hFt⟩, hH, hS, ⟨sc, pl, gr, ti, lv, od, bk, hP⟩, ⟨O, Rq, rc, Cq, hAr⟩, l1, l2⟩ := id hC2
  obtain ⟨R, ln, sg, hA, hRel⟩ := id hF
  obtain ⟨r0, r1, r2, ⟨k3, k4, k5, k6, k7⟩, ⟨s0, s1, s2, s3, s4, s5⟩, m1, m2, m3⟩ := id hRel
  obtain ⟨old, P, rows, fm, fs, ⟨hHi, hsl⟩, hSl, hold, hn14, hfm, hrow, hfs, hsv⟩ := id hH
  refine g_aload_0 dX7_place_42 ?_
  refine g_get dX7_place_43 (fX7_12 rfl) ho rfl ?_
  refine g_get dX7_place_46 (fX7_124 rfl) hA.1 rfl ?_
  rw [s0]
  refine g_istore_3 rfl dX7_place_49 ?_
  refine g_aload_0 dX7_place_50 ?_
  refine g_get dX7_place_51 (fX7_12 rfl) ho rfl ?_
  refine g_iload_1 dX7_place_54 ?_
  refine g_putS (ty := .int) (s := 0) dX7_place_55 (fX7_124 rfl) (by decide) hA (fun M4 hA4 hO4 => ?_)
  have ho4 := (hO4 a (by omega)).trans ho
  have hao4 := hA4.1
  have hco4 := hA4.2.1.1
  have hyo4 := hA4.2.2.1.1
  refine g_aload_0 dX7_place_58 ?_
  refine g_get dX7_place_59 (fX7_12 rfl) ho4 rfl ?_
  refine g_iload_2 dX7_place_62 ?_
  refine g_putS (ty := .int) (s := 1) dX7_place_63 (fX7_127 rfl) (by decide) hA4 (fun M5 hA5 hO5 => ?_)
  have hao5 := hA5.1
  have hco5 := hA5.2.1.1
  have hyo5 := hA5.2.2.1.1
  refine g_iload_3 dX7_place_66 ?_
  exact g_ireturn rfl rfl dX7_place_67 (Nat.le_of_ble_eq_true rfl) (Nat.le_of_ble_eq_true rfl) ⟨rfl, hC2.rug (hO4.tr hO5) ⟨_, ln, sg, hA5, hRel.s0.s1⟩, hX2.tr (CFr.of (hO4.tr hO5) (by omega) (by omega))⟩
theorem c_place_x1 (hC : CInv M a lo z f n h sv len g) (hI : Rng f) (hx : x < 0 ∨ nI 144 ≤ x) : Runs mX7_place [.ref a, .int x, .int y] M z (gE IOE M z) := by
  obtain ⟨ho, hF, ⟨ft, hFt⟩, hH, hS, ⟨sc, pl, gr, ti, lv, od, bk, hP⟩, ⟨O, Rq, rc, Cq, hAr⟩, l1, l2⟩ := id hC
  obtain ⟨R, ln, sg, hA, hRel⟩ := id hF
  obtain ⟨r0, r1, r2, ⟨k3, k4, k5, k6, k7⟩, ⟨s0, s1, s2, s3, s4, s5⟩, m1, m2, m3⟩ := id hRel
  refine runs_of plX7 rfl (Nat.le_of_ble_eq_true rfl) ?_
  show WP mX7_place 0 [some (.ref a), some (.int x), some (.int y), none] [] M z 0 0 _
  refine g_iload_1 dX7_place_0 ?_
  refine g_s1_x dX7_place_1 (sX7_74 rfl) rfl (Nat.le_of_ble_eq_true rfl) (Nat.le_of_ble_eq_true rfl) (Nat.le_of_ble_eq_true rfl) (c_needCell_x hx) (fun z2 hz2 => ?_)
  exact x_out rfl (Nat.le_of_ble_eq_true rfl) (Nat.le_of_ble_eq_true rfl) ⟨rfl, rfl, hz2⟩
theorem c_place_x2 (hC : CInv M a lo z f n h sv len g) (hI : Rng f) (hj : j < 144) (hx : y < nI 0 ∨ nI 3 < y) : Runs mX7_place [.ref a, .int (nI j), .int y] M z (gE IAE M z) := by
  obtain ⟨ho, hF, ⟨ft, hFt⟩, hH, hS, ⟨sc, pl, gr, ti, lv, od, bk, hP⟩, ⟨O, Rq, rc, Cq, hAr⟩, l1, l2⟩ := id hC
  obtain ⟨R, ln, sg, hA, hRel⟩ := id hF
  obtain ⟨r0, r1, r2, ⟨k3, k4, k5, k6, k7⟩, ⟨s0, s1, s2, s3, s4, s5⟩, m1, m2, m3⟩ := id hRel
  refine runs_of plX7 rfl (Nat.le_of_ble_eq_true rfl) ?_
  show WP mX7_place 0 [some (.ref a), some (.int (nI j)), some (.int y), none] [] M z 0 0 _
  refine g_iload_1 dX7_place_0 ?_
  refine g_s1_0r dX7_place_1 (sX7_74 rfl) rfl (Nat.le_of_ble_eq_true rfl) (Nat.le_of_ble_eq_true rfl) (Nat.le_of_ble_eq_true rfl) (c_needCell_ok hj) ?_
  refine g_iload_2 dX7_place_4 ?_
  refine g_iconst (v := nI 0) dX7_place_5 rfl ?_
  refine g_iconst (v := nI 3) dX7_place_6 rfl ?_
  refine g_s3_x dX7_place_7 (sX7_51 rfl) rfl (Nat.le_of_ble_eq_true rfl) (Nat.le_of_ble_eq_true rfl) (Nat.le_of_ble_eq_true rfl) (c_needRange_x hx) (fun z2 hz2 => ?_)
  exact x_out rfl (Nat.le_of_ble_eq_true rfl) (Nat.le_of_ble_eq_true rfl) ⟨rfl, rfl, hz2⟩
theorem c_place_x3 (hC : CInv M a lo z f n h sv len g) (hI : Rng f) (hj : j < 144) (hh : hd < 4) (ht : 0 < tno f) : Runs mX7_place [.ref a, .int (nI j), .int (nI hd)] M z (gE ISE M z) := by
  obtain ⟨ho, hF, ⟨ft, hFt⟩, hH, hS, ⟨sc, pl, gr, ti, lv, od, bk, hP⟩, ⟨O, Rq, rc, Cq, hAr⟩, l1, l2⟩ := id hC
  obtain ⟨R, ln, sg, hA, hRel⟩ := id hF
  obtain ⟨r0, r1, r2, ⟨k3, k4, k5, k6, k7⟩, ⟨s0, s1, s2, s3, s4, s5⟩, m1, m2, m3⟩ := id hRel
  have htl := hI.tlt
  refine runs_of plX7 rfl (Nat.le_of_ble_eq_true rfl) ?_
  show WP mX7_place 0 [some (.ref a), some (.int (nI j)), some (.int (nI hd)), none] [] M z 0 0 _
  refine g_iload_1 dX7_place_0 ?_
  refine g_s1_0r dX7_place_1 (sX7_74 rfl) rfl (Nat.le_of_ble_eq_true rfl) (Nat.le_of_ble_eq_true rfl) (Nat.le_of_ble_eq_true rfl) (c_needCell_ok hj) ?_
  refine g_iload_2 dX7_place_4 ?_
  refine g_iconst (v := nI 0) dX7_place_5 rfl ?_
  refine g_iconst (v := nI 3) dX7_place_6 rfl ?_
  refine g_s3_0r dX7_place_7 (sX7_51 rfl) rfl (Nat.le_of_ble_eq_true rfl) (Nat.le_of_ble_eq_true rfl) (Nat.le_of_ble_eq_true rfl) (c_needRange_ok (nI_nlt (by omega) (by omega)) (nI_le (by omega) (by decide))) ?_
  refine g_aload_0 dX7_place_10 ?_
  refine g_get dX7_place_11 (fX7_12 rfl) ho rfl ?_
  refine g_get dX7_place_14 (fX7_130 rfl) hA.1 rfl ?_
  rw [s2, hI.thr (c := tno f - 1) (by omega)]
  refine g_iconst (v := -1) dX7_place_17 rfl ?_
  refine g_icmp_eq (tgt := 31) dX7_place_18 (by decide)  (fun h18 => absurd h18 (nI_nm1 (by omega))) (fun _ => ?_)
  exact g_throw (tX7_236 rfl) rfl dX7_place_21 dX7_place_24 (Or.inl ⟨dX7_place_25, dX7_place_27, dX7_place_30⟩) (Nat.le_of_ble_eq_true rfl) (Nat.le_of_ble_eq_true rfl) (Nat.le_of_ble_eq_true rfl) (Nat.le_of_ble_eq_true rfl) (fun z2 hz2 => ⟨rfl, rfl, hz2⟩)
theorem c_wind (hC : CInv M a lo z f n h sv len g) (hI : Rng f) (hc : c < 5) (h1 : 1 ≤ m) (h2 : m ≤ 9999) (hw : f (432 + 5 * c) + nI m ≤ nI 20000) : Runs mX7_wind [.ref a, .int (nI c), .int (nI m)] M z (CQ (some (.int (f (432 + 5 * c) + nI m))) M a lo (upd (upd f (432 + 5 * c) (f (432 + 5 * c) + nI m)) (433 + 5 * c) (f (433 + 5 * c) + nI m)) (remN n) (remH n h f) sv len g z) := by
  obtain ⟨ho, hF, ⟨ft, hFt⟩, hH, hS, ⟨sc, pl, gr, ti, lv, od, bk, hP⟩, ⟨O, Rq, rc, Cq, hAr⟩, l1, l2⟩ := id hC
  obtain ⟨R, ln, sg, hA, hRel⟩ := id hF
  obtain ⟨r0, r1, r2, ⟨k3, k4, k5, k6, k7⟩, ⟨s0, s1, s2, s3, s4, s5⟩, m1, m2, m3⟩ := id hRel
  obtain ⟨old, P, rows, fm, fs, ⟨hHi, hsl⟩, hSl, hold, hn14, hfm, hrow, hfs, hsv⟩ := id hH
  refine runs_of plX7 rfl (Nat.le_of_ble_eq_true rfl) ?_
  show WP mX7_wind 0 [some (.ref a), some (.int (nI c)), some (.int (nI m))] [] M z 0 0 _
  refine g_iload_1 dX7_wind_0 ?_
  refine g_s1_0r dX7_wind_1 (sX7_110 rfl) rfl (Nat.le_of_ble_eq_true rfl) (Nat.le_of_ble_eq_true rfl) (Nat.le_of_ble_eq_true rfl) (c_needColour_ok hc) ?_
  refine g_iload_2 dX7_wind_4 ?_
  refine g_iconst (v := nI 1) dX7_wind_5 rfl ?_
  refine g_sipush (v := nI 9999) dX7_wind_6 rfl ?_
  refine g_s3_0r dX7_wind_9 (sX7_51 rfl) rfl (Nat.le_of_ble_eq_true rfl) (Nat.le_of_ble_eq_true rfl) (Nat.le_of_ble_eq_true rfl) (c_needRange_ok (nI_nlt (by omega) (by omega)) (nI_le (by omega) (by decide))) ?_
  refine g_aload_0 dX7_wind_12 ?_
  refine g_get dX7_wind_13 (fX7_12 rfl) ho rfl ?_
  refine g_get dX7_wind_16 (fX7_147 rfl) hA.1 rfl ?_
  refine g_iload_1 dX7_wind_19 ?_
  refine g_v1_1 dX7_wind_20 (vX7_151 rfl) rfl hA.2.2.1.1 (Nat.le_of_ble_eq_true rfl) ⟨rfl, rfl⟩ (Nat.le_of_ble_eq_true rfl) (Nat.le_of_ble_eq_true rfl) (c_onCone hA.2.2.1 hc) ?_
  rw [k3 c hc]
  refine g_iload_2 dX7_wind_23 ?_
  refine g_iadd dX7_wind_24 ?_
  refine g_sipush (v := nI 20000) dX7_wind_25 rfl ?_
  refine g_icmp_le (tgt := 41) dX7_wind_28 (by decide)  (fun _ => ?_) (fun h28 => absurd hw h28)
  refine g_aload_0 dX7_wind_41 ?_
  refine g_get dX7_wind_42 (fX7_26 rfl) ho rfl ?_
  refine g_aload_0 dX7_wind_45 ?_
  refine g_get dX7_wind_46 (fX7_12 rfl) ho rfl ?_
  refine g_v1 dX7_wind_49 (vX7_193 rfl) rfl hHi.1 (Nat.le_of_ble_eq_true rfl) (Nat.le_of_ble_eq_true rfl) (Nat.le_of_ble_eq_true rfl) (q_remC hC) (fun r M2 z2 hq => ?_) (fun E M2 z2 hq => by obtain ⟨hq, -⟩ := hq; cases hq)
  obtain ⟨hr, hC2, hX2⟩ := hq
  cases hr
  obtain ⟨ho, hF, ⟨ft, hFt⟩, hH, hS, ⟨sc, pl, gr, ti, lv, od, bk, hP⟩, ⟨O, Rq, rc, Cq, hAr⟩, l1, l2⟩ := id hC2
  obtain ⟨R, ln, sg, hA, hRel⟩ := id hF
  obtain ⟨r0, r1, r2, ⟨k3, k4, k5, k6, k7⟩, ⟨s0, s1, s2, s3, s4, s5⟩, m1, m2, m3⟩ := id hRel
  obtain ⟨old, P, rows, fm, fs, ⟨hHi, hsl⟩, hSl, hold, hn14, hfm, hrow, hfs, hsv⟩ := id hH
  refine g_aload_0 dX7_wind_52 ?_
  refine g_get dX7_wind_53 (fX7_12 rfl) ho rfl ?_
  refine g_get dX7_wind_56 (fX7_147 rfl) hA.1 rfl ?_
  refine g_iload_1 dX7_wind_59 ?_
  refine g_iload_2 dX7_wind_60 ?_
  refine g_v2 dX7_wind_61 (vX7_240 rfl) rfl hA.2.2.1.1 (Nat.le_of_ble_eq_true rfl) (Nat.le_of_ble_eq_true rfl) (Nat.le_of_ble_eq_true rfl) (r_putOn (x := nI m) hA hc) (fun r M2 z2 hq => ?_) (fun E M2 z2 hq => by obtain ⟨hq, -⟩ := hq; cases hq)
  obtain ⟨hr, hA3, hO3, rfl⟩ := hq
  cases hr
  have hF3 : RugF _ (a + 1) (upd (upd f (432 + 5 * c) (f (432 + 5 * c) + nI m)) (433 + 5 * c) (f (433 + 5 * c) + nI m)) := ⟨_, ln, sg, hA3, by
      have e := (hRel.y0 (v := f (432 + 5 * c) + nI m) hc).y1 (v := f (433 + 5 * c) + nI m) hc
      rw [k3 c hc, k4 c hc]
      exact e⟩
  have ho := (hO3 a (by omega)).trans ho
  obtain ⟨R, ln, sg, hA, hRel⟩ := id hF3
  obtain ⟨r0, r1, r2, ⟨k3, k4, k5, k6, k7⟩, ⟨s0, s1, s2, s3, s4, s5⟩, m1, m2, m3⟩ := id hRel
  refine g_aload_0 dX7_wind_64 ?_
  refine g_get dX7_wind_65 (fX7_12 rfl) ho rfl ?_
  refine g_get dX7_wind_68 (fX7_147 rfl) hA.1 rfl ?_
  refine g_iload_1 dX7_wind_71 ?_
  refine g_v1_1 dX7_wind_72 (vX7_151 rfl) rfl hA.2.2.1.1 (Nat.le_of_ble_eq_true rfl) ⟨rfl, rfl⟩ (Nat.le_of_ble_eq_true rfl) (Nat.le_of_ble_eq_true rfl) (c_onCone hA.2.2.1 hc) ?_
  rw [k3 c hc, upd_ne (show 432 + 5 * c ≠ 433 + 5 * c by omega), upd_eq]
  exact g_ireturn rfl rfl dX7_wind_75 (Nat.le_of_ble_eq_true rfl) (Nat.le_of_ble_eq_true rfl) ⟨rfl, hC2.rug hO3 hF3, hX2.tr (CFr.of hO3 (by omega) (by omega))⟩
theorem c_wind_x1 (hC : CInv M a lo z f n h sv len g) (hI : Rng f) (hx : x < 0 ∨ nI 5 ≤ x) : Runs mX7_wind [.ref a, .int x, .int y] M z (gE IOE M z) := by
  obtain ⟨ho, hF, ⟨ft, hFt⟩, hH, hS, ⟨sc, pl, gr, ti, lv, od, bk, hP⟩, ⟨O, Rq, rc, Cq, hAr⟩, l1, l2⟩ := id hC
  obtain ⟨R, ln, sg, hA, hRel⟩ := id hF
  obtain ⟨r0, r1, r2, ⟨k3, k4, k5, k6, k7⟩, ⟨s0, s1, s2, s3, s4, s5⟩, m1, m2, m3⟩ := id hRel
  refine runs_of plX7 rfl (Nat.le_of_ble_eq_true rfl) ?_
  show WP mX7_wind 0 [some (.ref a), some (.int x), some (.int y)] [] M z 0 0 _
  refine g_iload_1 dX7_wind_0 ?_
  refine g_s1_x dX7_wind_1 (sX7_110 rfl) rfl (Nat.le_of_ble_eq_true rfl) (Nat.le_of_ble_eq_true rfl) (Nat.le_of_ble_eq_true rfl) (c_needColour_x hx) (fun z2 hz2 => ?_)
  exact x_out rfl (Nat.le_of_ble_eq_true rfl) (Nat.le_of_ble_eq_true rfl) ⟨rfl, rfl, hz2⟩
theorem c_wind_x2 (hC : CInv M a lo z f n h sv len g) (hI : Rng f) (hc : c < 5) (hx : y < nI 1 ∨ nI 9999 < y) : Runs mX7_wind [.ref a, .int (nI c), .int y] M z (gE IAE M z) := by
  obtain ⟨ho, hF, ⟨ft, hFt⟩, hH, hS, ⟨sc, pl, gr, ti, lv, od, bk, hP⟩, ⟨O, Rq, rc, Cq, hAr⟩, l1, l2⟩ := id hC
  obtain ⟨R, ln, sg, hA, hRel⟩ := id hF
  obtain ⟨r0, r1, r2, ⟨k3, k4, k5, k6, k7⟩, ⟨s0, s1, s2, s3, s4, s5⟩, m1, m2, m3⟩ := id hRel
  refine runs_of plX7 rfl (Nat.le_of_ble_eq_true rfl) ?_
  show WP mX7_wind 0 [some (.ref a), some (.int (nI c)), some (.int y)] [] M z 0 0 _
  refine g_iload_1 dX7_wind_0 ?_
  refine g_s1_0r dX7_wind_1 (sX7_110 rfl) rfl (Nat.le_of_ble_eq_true rfl) (Nat.le_of_ble_eq_true rfl) (Nat.le_of_ble_eq_true rfl) (c_needColour_ok hc) ?_
  refine g_iload_2 dX7_wind_4 ?_
  refine g_iconst (v := nI 1) dX7_wind_5 rfl ?_
  refine g_sipush (v := nI 9999) dX7_wind_6 rfl ?_
  refine g_s3_x dX7_wind_9 (sX7_51 rfl) rfl (Nat.le_of_ble_eq_true rfl) (Nat.le_of_ble_eq_true rfl) (Nat.le_of_ble_eq_true rfl) (c_needRange_x hx) (fun z2 hz2 => ?_)
  exact x_out rfl (Nat.le_of_ble_eq_true rfl) (Nat.le_of_ble_eq_true rfl) ⟨rfl, rfl, hz2⟩
theorem c_wind_x3 (hC : CInv M a lo z f n h sv len g) (hI : Rng f) (hc : c < 5) (h1 : 1 ≤ m) (h2 : m ≤ 9999) (hw : ¬ f (432 + 5 * c) + nI m ≤ nI 20000) : Runs mX7_wind [.ref a, .int (nI c), .int (nI m)] M z (gE ISE M z) := by
  obtain ⟨ho, hF, ⟨ft, hFt⟩, hH, hS, ⟨sc, pl, gr, ti, lv, od, bk, hP⟩, ⟨O, Rq, rc, Cq, hAr⟩, l1, l2⟩ := id hC
  obtain ⟨R, ln, sg, hA, hRel⟩ := id hF
  obtain ⟨r0, r1, r2, ⟨k3, k4, k5, k6, k7⟩, ⟨s0, s1, s2, s3, s4, s5⟩, m1, m2, m3⟩ := id hRel
  refine runs_of plX7 rfl (Nat.le_of_ble_eq_true rfl) ?_
  show WP mX7_wind 0 [some (.ref a), some (.int (nI c)), some (.int (nI m))] [] M z 0 0 _
  refine g_iload_1 dX7_wind_0 ?_
  refine g_s1_0r dX7_wind_1 (sX7_110 rfl) rfl (Nat.le_of_ble_eq_true rfl) (Nat.le_of_ble_eq_true rfl) (Nat.le_of_ble_eq_true rfl) (c_needColour_ok hc) ?_
  refine g_iload_2 dX7_wind_4 ?_
  refine g_iconst (v := nI 1) dX7_wind_5 rfl ?_
  refine g_sipush (v := nI 9999) dX7_wind_6 rfl ?_
  refine g_s3_0r dX7_wind_9 (sX7_51 rfl) rfl (Nat.le_of_ble_eq_true rfl) (Nat.le_of_ble_eq_true rfl) (Nat.le_of_ble_eq_true rfl) (c_needRange_ok (nI_nlt (by omega) (by omega)) (nI_le (by omega) (by decide))) ?_
  refine g_aload_0 dX7_wind_12 ?_
  refine g_get dX7_wind_13 (fX7_12 rfl) ho rfl ?_
  refine g_get dX7_wind_16 (fX7_147 rfl) hA.1 rfl ?_
  refine g_iload_1 dX7_wind_19 ?_
  refine g_v1_1 dX7_wind_20 (vX7_151 rfl) rfl hA.2.2.1.1 (Nat.le_of_ble_eq_true rfl) ⟨rfl, rfl⟩ (Nat.le_of_ble_eq_true rfl) (Nat.le_of_ble_eq_true rfl) (c_onCone hA.2.2.1 hc) ?_
  rw [k3 c hc]
  refine g_iload_2 dX7_wind_23 ?_
  refine g_iadd dX7_wind_24 ?_
  refine g_sipush (v := nI 20000) dX7_wind_25 rfl ?_
  refine g_icmp_le (tgt := 41) dX7_wind_28 (by decide)  (fun h28 => absurd h28 hw) (fun _ => ?_)
  exact g_throw (tX7_238 rfl) rfl dX7_wind_31 dX7_wind_34 (Or.inl ⟨dX7_wind_35, dX7_wind_37, dX7_wind_40⟩) (Nat.le_of_ble_eq_true rfl) (Nat.le_of_ble_eq_true rfl) (Nat.le_of_ble_eq_true rfl) (Nat.le_of_ble_eq_true rfl) (fun z2 hz2 => ⟨rfl, rfl, hz2⟩)
theorem noM_m (h0 : f_noMend f j = 0) : missF f j = true ∧ ¬ f (432 + 5 * (gv f j - 1)) < f_yarn (f 460) := by
  unfold f_noMend at h0
  split at h0
  · next q =>
    split at h0
    · omega
    · next w => exact ⟨q, w⟩
  · omega
theorem noM_lt (f : Row) (j : Nat) : f_noMend f j < 3 := by
  unfold f_noMend
  split
  · split <;> omega
  · omega
theorem mend_144 : f_mend f j (144 + j) = f j := by
  unfold f_mend
  rw [upd_ne (by omega), upd_eq]
theorem c_mend (hC : CInv M a lo z f n h sv len g) (hI : Rng f) (hj : j < 144) (h0 : f_noMend f j = 0) : Runs mX7_mend [.ref a, .int (nI j)] M z (CQ (some (.int (nI (gv f j - 1)))) M a lo (f_mend f j) (remN n) (remH n h f) sv len g z) := by
  obtain ⟨ho, hF, ⟨ft, hFt⟩, hH, hS, ⟨sc, pl, gr, ti, lv, od, bk, hP⟩, ⟨O, Rq, rc, Cq, hAr⟩, l1, l2⟩ := id hC
  obtain ⟨R, ln, sg, hA, hRel⟩ := id hF
  obtain ⟨r0, r1, r2, ⟨k3, k4, k5, k6, k7⟩, ⟨s0, s1, s2, s3, s4, s5⟩, m1, m2, m3⟩ := id hRel
  obtain ⟨old, P, rows, fm, fs, ⟨hHi, hsl⟩, hSl, hold, hn14, hfm, hrow, hfs, hsv⟩ := id hH
  have hst := noM_lt f j
  refine runs_of plX7 rfl (Nat.le_of_ble_eq_true rfl) ?_
  show WP mX7_mend 0 [some (.ref a), some (.int (nI j))] [] M z 0 0 _
  refine g_iload_1 dX7_mend_0 ?_
  refine g_s1_0r dX7_mend_1 (sX7_74 rfl) rfl (Nat.le_of_ble_eq_true rfl) (Nat.le_of_ble_eq_true rfl) (Nat.le_of_ble_eq_true rfl) (c_needCell_ok hj) ?_
  refine g_aload_0 dX7_mend_4 ?_
  refine g_get dX7_mend_5 (fX7_12 rfl) ho rfl ?_
  refine g_iload_1 dX7_mend_8 ?_
  refine g_v1_1 dX7_mend_9 (vX7_243 rfl) rfl hA.1 (Nat.le_of_ble_eq_true rfl) ⟨rfl, rfl⟩ (Nat.le_of_ble_eq_true rfl) (Nat.le_of_ble_eq_true rfl) (q_reasonMending hF hI hj) ?_
  refine g_if_eqN (tgt := 25) dX7_mend_12 (by decide) (by omega) (fun _ => ?_) (fun h12 => absurd h0 h12)
  refine g_aload_0 dX7_mend_25 ?_
  refine g_get dX7_mend_26 (fX7_26 rfl) ho rfl ?_
  refine g_aload_0 dX7_mend_29 ?_
  refine g_get dX7_mend_30 (fX7_12 rfl) ho rfl ?_
  refine g_v1 dX7_mend_33 (vX7_193 rfl) rfl hHi.1 (Nat.le_of_ble_eq_true rfl) (Nat.le_of_ble_eq_true rfl) (Nat.le_of_ble_eq_true rfl) (q_remC hC) (fun r M2 z2 hq => ?_) (fun E M2 z2 hq => by obtain ⟨hq, -⟩ := hq; cases hq)
  obtain ⟨hr, hC2, hX2⟩ := hq
  cases hr
  obtain ⟨ho, hF, ⟨ft, hFt⟩, hH, hS, ⟨sc, pl, gr, ti, lv, od, bk, hP⟩, ⟨O, Rq, rc, Cq, hAr⟩, l1, l2⟩ := id hC2
  obtain ⟨R, ln, sg, hA, hRel⟩ := id hF
  obtain ⟨r0, r1, r2, ⟨k3, k4, k5, k6, k7⟩, ⟨s0, s1, s2, s3, s4, s5⟩, m1, m2, m3⟩ := id hRel
  obtain ⟨old, P, rows, fm, fs, ⟨hHi, hsl⟩, hSl, hold, hn14, hfm, hrow, hfs, hsv⟩ := id hH
  refine g_aload_0 dX7_mend_36 ?_
  refine g_get dX7_mend_37 (fX7_12 rfl) ho rfl ?_
  refine g_iload_1 dX7_mend_40 ?_
  refine g_v1 dX7_mend_41 (vX7_248 rfl) rfl hA.1 (Nat.le_of_ble_eq_true rfl) (Nat.le_of_ble_eq_true rfl) (Nat.le_of_ble_eq_true rfl) (q_mendAt hF hI hj (noM_m h0).1) (fun r M2 z2 hq => ?_) (fun E M2 z2 hq => by obtain ⟨hq, -⟩ := hq; cases hq)
  obtain ⟨hr, hF3, hO3, rfl⟩ := hq
  cases hr
  have ho := (hO3 a (by omega)).trans ho
  obtain ⟨R, ln, sg, hA, hRel⟩ := id hF3
  obtain ⟨r0, r1, r2, ⟨k3, k4, k5, k6, k7⟩, ⟨s0, s1, s2, s3, s4, s5⟩, m1, m2, m3⟩ := id hRel
  refine g_aload_0 dX7_mend_44 ?_
  refine g_get dX7_mend_45 (fX7_12 rfl) ho rfl ?_
  refine g_get dX7_mend_48 (fX7_78 rfl) hA.1 rfl ?_
  refine g_iload_1 dX7_mend_51 ?_
  refine g_v1_1 dX7_mend_52 (vX7_88 rfl) rfl hA.2.1.1 (Nat.le_of_ble_eq_true rfl) ⟨rfl, rfl⟩ (Nat.le_of_ble_eq_true rfl) (Nat.le_of_ble_eq_true rfl) (c_loopAt hA.2.1 hj) ?_
  rw [r1 j hj, mend_144]
  obtain ⟨p1, p2, p3⟩ := hI.plan hj (noM_m h0).1
  have p4 := (hI.1 j hj).1
  rw [show lpv (dl (f j)) = nI (gv f j - 1) from by
    rw [p4]
    exact (lp_num (gv f j) (by omega)).2.1 ((hasL_num _ (by omega)).mpr ⟨p1, p2⟩)]
  exact g_ireturn rfl rfl dX7_mend_55 (Nat.le_of_ble_eq_true rfl) (Nat.le_of_ble_eq_true rfl) ⟨rfl, hC2.rug hO3 hF3, hX2.tr (CFr.of hO3 (by omega) (by omega))⟩
theorem c_mend_x1 (hC : CInv M a lo z f n h sv len g) (hI : Rng f) (hx : x < 0 ∨ nI 144 ≤ x) : Runs mX7_mend [.ref a, .int x] M z (gE IOE M z) := by
  obtain ⟨ho, hF, ⟨ft, hFt⟩, hH, hS, ⟨sc, pl, gr, ti, lv, od, bk, hP⟩, ⟨O, Rq, rc, Cq, hAr⟩, l1, l2⟩ := id hC
  obtain ⟨R, ln, sg, hA, hRel⟩ := id hF
  obtain ⟨r0, r1, r2, ⟨k3, k4, k5, k6, k7⟩, ⟨s0, s1, s2, s3, s4, s5⟩, m1, m2, m3⟩ := id hRel
  refine runs_of plX7 rfl (Nat.le_of_ble_eq_true rfl) ?_
  show WP mX7_mend 0 [some (.ref a), some (.int x)] [] M z 0 0 _
  refine g_iload_1 dX7_mend_0 ?_
  refine g_s1_x dX7_mend_1 (sX7_74 rfl) rfl (Nat.le_of_ble_eq_true rfl) (Nat.le_of_ble_eq_true rfl) (Nat.le_of_ble_eq_true rfl) (c_needCell_x hx) (fun z2 hz2 => ?_)
  exact x_out rfl (Nat.le_of_ble_eq_true rfl) (Nat.le_of_ble_eq_true rfl) ⟨rfl, rfl, hz2⟩
theorem c_mend_x2 (hC : CInv M a lo z f n h sv len g) (hI : Rng f) (hj : j < 144) (h0 : ¬ f_noMend f j = 0) : Runs mX7_mend [.ref a, .int (nI j)] M z (gE ISE M z) := by
  obtain ⟨ho, hF, ⟨ft, hFt⟩, hH, hS, ⟨sc, pl, gr, ti, lv, od, bk, hP⟩, ⟨O, Rq, rc, Cq, hAr⟩, l1, l2⟩ := id hC
  obtain ⟨R, ln, sg, hA, hRel⟩ := id hF
  obtain ⟨r0, r1, r2, ⟨k3, k4, k5, k6, k7⟩, ⟨s0, s1, s2, s3, s4, s5⟩, m1, m2, m3⟩ := id hRel
  have hst := noM_lt f j
  refine runs_of plX7 rfl (Nat.le_of_ble_eq_true rfl) ?_
  show WP mX7_mend 0 [some (.ref a), some (.int (nI j))] [] M z 0 0 _
  refine g_iload_1 dX7_mend_0 ?_
  refine g_s1_0r dX7_mend_1 (sX7_74 rfl) rfl (Nat.le_of_ble_eq_true rfl) (Nat.le_of_ble_eq_true rfl) (Nat.le_of_ble_eq_true rfl) (c_needCell_ok hj) ?_
  refine g_aload_0 dX7_mend_4 ?_
  refine g_get dX7_mend_5 (fX7_12 rfl) ho rfl ?_
  refine g_iload_1 dX7_mend_8 ?_
  refine g_v1_1 dX7_mend_9 (vX7_243 rfl) rfl hA.1 (Nat.le_of_ble_eq_true rfl) ⟨rfl, rfl⟩ (Nat.le_of_ble_eq_true rfl) (Nat.le_of_ble_eq_true rfl) (q_reasonMending hF hI hj) ?_
  refine g_if_eqN (tgt := 25) dX7_mend_12 (by decide) (by omega) (fun h12 => absurd h12 h0) (fun _ => ?_)
  exact g_throw (tX7_246 rfl) rfl dX7_mend_15 dX7_mend_18 (Or.inl ⟨dX7_mend_19, dX7_mend_21, dX7_mend_24⟩) (Nat.le_of_ble_eq_true rfl) (Nat.le_of_ble_eq_true rfl) (Nat.le_of_ble_eq_true rfl) (Nat.le_of_ble_eq_true rfl) (fun z2 hz2 => ⟨rfl, rfl, hz2⟩)
theorem c_unpick (hC : CInv M a lo z f n h sv len g) (hI : Rng f) (hj : j < 144) (hl : hasL (f (144 + j)) = true) : Runs mX7_unpick [.ref a, .int (nI j)] M z (CQ (some (.int (nI (gv f (144 + j) - 1)))) M a lo (f_unpick f j) (remN n) (remH n h f) sv len g z) := by
  obtain ⟨ho, hF, ⟨ft, hFt⟩, hH, hS, ⟨sc, pl, gr, ti, lv, od, bk, hP⟩, ⟨O, Rq, rc, Cq, hAr⟩, l1, l2⟩ := id hC
  obtain ⟨R, ln, sg, hA, hRel⟩ := id hF
  obtain ⟨r0, r1, r2, ⟨k3, k4, k5, k6, k7⟩, ⟨s0, s1, s2, s3, s4, s5⟩, m1, m2, m3⟩ := id hRel
  obtain ⟨old, P, rows, fm, fs, ⟨hHi, hsl⟩, hSl, hold, hn14, hfm, hrow, hfs, hsv⟩ := id hH
  refine runs_of plX7 rfl (Nat.le_of_ble_eq_true rfl) ?_
  show WP mX7_unpick 0 [some (.ref a), some (.int (nI j)), none] [] M z 0 0 _
  refine g_iload_1 dX7_unpick_0 ?_
  refine g_s1_0r dX7_unpick_1 (sX7_74 rfl) rfl (Nat.le_of_ble_eq_true rfl) (Nat.le_of_ble_eq_true rfl) (Nat.le_of_ble_eq_true rfl) (c_needCell_ok hj) ?_
  refine g_aload_0 dX7_unpick_4 ?_
  refine g_get dX7_unpick_5 (fX7_12 rfl) ho rfl ?_
  refine g_get dX7_unpick_8 (fX7_78 rfl) hA.1 rfl ?_
  refine g_iload_1 dX7_unpick_11 ?_
  refine g_v1_1 dX7_unpick_12 (vX7_88 rfl) rfl hA.2.1.1 (Nat.le_of_ble_eq_true rfl) ⟨rfl, rfl⟩ (Nat.le_of_ble_eq_true rfl) (Nat.le_of_ble_eq_true rfl) (c_loopAt hA.2.1 hj) ?_
  rw [r1 j hj, (hasL_dl hI hj hl).2.2]
  refine g_istore_2 rfl dX7_unpick_15 ?_
  refine g_iload_2 dX7_unpick_16 ?_
  refine g_iconst (v := -1) dX7_unpick_17 rfl ?_
  refine g_icmp_ne (tgt := 31) dX7_unpick_18 (by decide)  (fun _ => ?_) (fun h18 => absurd h18 (nI_nm1 (by have := (hasL_dl hI hj hl).1; omega)))
  refine g_aload_0 dX7_unpick_31 ?_
  refine g_get dX7_unpick_32 (fX7_26 rfl) ho rfl ?_
  refine g_aload_0 dX7_unpick_35 ?_
  refine g_get dX7_unpick_36 (fX7_12 rfl) ho rfl ?_
  refine g_v1 dX7_unpick_39 (vX7_193 rfl) rfl hHi.1 (Nat.le_of_ble_eq_true rfl) (Nat.le_of_ble_eq_true rfl) (Nat.le_of_ble_eq_true rfl) (q_remC hC) (fun r M2 z2 hq => ?_) (fun E M2 z2 hq => by obtain ⟨hq, -⟩ := hq; cases hq)
  obtain ⟨hr, hC2, hX2⟩ := hq
  cases hr
  obtain ⟨ho, hF, ⟨ft, hFt⟩, hH, hS, ⟨sc, pl, gr, ti, lv, od, bk, hP⟩, ⟨O, Rq, rc, Cq, hAr⟩, l1, l2⟩ := id hC2
  obtain ⟨R, ln, sg, hA, hRel⟩ := id hF
  obtain ⟨r0, r1, r2, ⟨k3, k4, k5, k6, k7⟩, ⟨s0, s1, s2, s3, s4, s5⟩, m1, m2, m3⟩ := id hRel
  obtain ⟨old, P, rows, fm, fs, ⟨hHi, hsl⟩, hSl, hold, hn14, hfm, hrow, hfs, hsv⟩ := id hH
  refine g_aload_0 dX7_unpick_42 ?_
  refine g_get dX7_unpick_43 (fX7_12 rfl) ho rfl ?_
  refine g_iload_1 dX7_unpick_46 ?_
  refine g_v1 dX7_unpick_47 (vX7_253 rfl) rfl hA.1 (Nat.le_of_ble_eq_true rfl) (Nat.le_of_ble_eq_true rfl) (Nat.le_of_ble_eq_true rfl) (q_tryUnpickT hF hI hj hl) (fun r M2 z2 hq => ?_) (fun E M2 z2 hq => by obtain ⟨hq, -⟩ := hq; cases hq)
  obtain ⟨hr, hF3, hO3, rfl⟩ := hq
  cases hr
  refine g_iload_2 dX7_unpick_50 ?_
  exact g_ireturn rfl rfl dX7_unpick_51 (Nat.le_of_ble_eq_true rfl) (Nat.le_of_ble_eq_true rfl) ⟨rfl, hC2.rug hO3 hF3, hX2.tr (CFr.of hO3 (by omega) (by omega))⟩
theorem c_unpick_x1 (hC : CInv M a lo z f n h sv len g) (hI : Rng f) (hx : x < 0 ∨ nI 144 ≤ x) : Runs mX7_unpick [.ref a, .int x] M z (gE IOE M z) := by
  obtain ⟨ho, hF, ⟨ft, hFt⟩, hH, hS, ⟨sc, pl, gr, ti, lv, od, bk, hP⟩, ⟨O, Rq, rc, Cq, hAr⟩, l1, l2⟩ := id hC
  obtain ⟨R, ln, sg, hA, hRel⟩ := id hF
  obtain ⟨r0, r1, r2, ⟨k3, k4, k5, k6, k7⟩, ⟨s0, s1, s2, s3, s4, s5⟩, m1, m2, m3⟩ := id hRel
  refine runs_of plX7 rfl (Nat.le_of_ble_eq_true rfl) ?_
  show WP mX7_unpick 0 [some (.ref a), some (.int x), none] [] M z 0 0 _
  refine g_iload_1 dX7_unpick_0 ?_
  refine g_s1_x dX7_unpick_1 (sX7_74 rfl) rfl (Nat.le_of_ble_eq_true rfl) (Nat.le_of_ble_eq_true rfl) (Nat.le_of_ble_eq_true rfl) (c_needCell_x hx) (fun z2 hz2 => ?_)
  exact x_out rfl (Nat.le_of_ble_eq_true rfl) (Nat.le_of_ble_eq_true rfl) ⟨rfl, rfl, hz2⟩
theorem c_unpick_x2 (hC : CInv M a lo z f n h sv len g) (hI : Rng f) (hj : j < 144) (hl : hasL (f (144 + j)) = false) : Runs mX7_unpick [.ref a, .int (nI j)] M z (gE ISE M z) := by
  obtain ⟨ho, hF, ⟨ft, hFt⟩, hH, hS, ⟨sc, pl, gr, ti, lv, od, bk, hP⟩, ⟨O, Rq, rc, Cq, hAr⟩, l1, l2⟩ := id hC
  obtain ⟨R, ln, sg, hA, hRel⟩ := id hF
  obtain ⟨r0, r1, r2, ⟨k3, k4, k5, k6, k7⟩, ⟨s0, s1, s2, s3, s4, s5⟩, m1, m2, m3⟩ := id hRel
  refine runs_of plX7 rfl (Nat.le_of_ble_eq_true rfl) ?_
  show WP mX7_unpick 0 [some (.ref a), some (.int (nI j)), none] [] M z 0 0 _
  refine g_iload_1 dX7_unpick_0 ?_
  refine g_s1_0r dX7_unpick_1 (sX7_74 rfl) rfl (Nat.le_of_ble_eq_true rfl) (Nat.le_of_ble_eq_true rfl) (Nat.le_of_ble_eq_true rfl) (c_needCell_ok hj) ?_
  refine g_aload_0 dX7_unpick_4 ?_
  refine g_get dX7_unpick_5 (fX7_12 rfl) ho rfl ?_
  refine g_get dX7_unpick_8 (fX7_78 rfl) hA.1 rfl ?_
  refine g_iload_1 dX7_unpick_11 ?_
  refine g_v1_1 dX7_unpick_12 (vX7_88 rfl) rfl hA.2.1.1 (Nat.le_of_ble_eq_true rfl) ⟨rfl, rfl⟩ (Nat.le_of_ble_eq_true rfl) (Nat.le_of_ble_eq_true rfl) (c_loopAt hA.2.1 hj) ?_
  rw [r1 j hj, (lp_iff (hI.2.1 j hj)).mpr hl]
  refine g_istore_2 rfl dX7_unpick_15 ?_
  refine g_iload_2 dX7_unpick_16 ?_
  refine g_iconst (v := -1) dX7_unpick_17 rfl ?_
  refine g_icmp_ne (tgt := 31) dX7_unpick_18 (by decide)  (fun h18 => absurd rfl h18) (fun _ => ?_)
  exact g_throw (tX7_251 rfl) rfl dX7_unpick_21 dX7_unpick_24 (Or.inl ⟨dX7_unpick_25, dX7_unpick_27, dX7_unpick_30⟩) (Nat.le_of_ble_eq_true rfl) (Nat.le_of_ble_eq_true rfl) (Nat.le_of_ble_eq_true rfl) (Nat.le_of_ble_eq_true rfl) (fun z2 hz2 => ⟨rfl, rfl, hz2⟩)
theorem c_shear (hC : CInv M a lo z f n h sv len g) (hI : Rng f) (h1 : 1 ≤ m) (h2 : m ≤ 9) : Runs mX7_shear [.ref a, .int (nI m)] M z (CQ (some (.int (nI (f_shear (nI m) 144 f).2))) M a lo ((f_shear (nI m) 144 f).1) (remN n) (remH n h f) sv len g z) := by
  obtain ⟨ho, hF, ⟨ft, hFt⟩, hH, hS, ⟨sc, pl, gr, ti, lv, od, bk, hP⟩, ⟨O, Rq, rc, Cq, hAr⟩, l1, l2⟩ := id hC
  obtain ⟨R, ln, sg, hA, hRel⟩ := id hF
  obtain ⟨r0, r1, r2, ⟨k3, k4, k5, k6, k7⟩, ⟨s0, s1, s2, s3, s4, s5⟩, m1, m2, m3⟩ := id hRel
  obtain ⟨old, P, rows, fm, fs, ⟨hHi, hsl⟩, hSl, hold, hn14, hfm, hrow, hfs, hsv⟩ := id hH
  refine runs_of plX7 rfl (Nat.le_of_ble_eq_true rfl) ?_
  show WP mX7_shear 0 [some (.ref a), some (.int (nI m))] [] M z 0 0 _
  refine g_iload_1 dX7_shear_0 ?_
  refine g_iconst (v := nI 1) dX7_shear_1 rfl ?_
  refine g_bipush (v := nI 9) dX7_shear_2 rfl ?_
  refine g_s3_0r dX7_shear_4 (sX7_51 rfl) rfl (Nat.le_of_ble_eq_true rfl) (Nat.le_of_ble_eq_true rfl) (Nat.le_of_ble_eq_true rfl) (c_needRange_ok (nI_nlt (by omega) (by omega)) (nI_le (by omega) (by decide))) ?_
  refine g_aload_0 dX7_shear_7 ?_
  refine g_get dX7_shear_8 (fX7_26 rfl) ho rfl ?_
  refine g_aload_0 dX7_shear_11 ?_
  refine g_get dX7_shear_12 (fX7_12 rfl) ho rfl ?_
  refine g_v1 dX7_shear_15 (vX7_193 rfl) rfl hHi.1 (Nat.le_of_ble_eq_true rfl) (Nat.le_of_ble_eq_true rfl) (Nat.le_of_ble_eq_true rfl) (q_remC hC) (fun r M2 z2 hq => ?_) (fun E M2 z2 hq => by obtain ⟨hq, -⟩ := hq; cases hq)
  obtain ⟨hr, hC2, hX2⟩ := hq
  cases hr
  obtain ⟨ho, hF, ⟨ft, hFt⟩, hH, hS, ⟨sc, pl, gr, ti, lv, od, bk, hP⟩, ⟨O, Rq, rc, Cq, hAr⟩, l1, l2⟩ := id hC2
  obtain ⟨R, ln, sg, hA, hRel⟩ := id hF
  obtain ⟨r0, r1, r2, ⟨k3, k4, k5, k6, k7⟩, ⟨s0, s1, s2, s3, s4, s5⟩, m1, m2, m3⟩ := id hRel
  obtain ⟨old, P, rows, fm, fs, ⟨hHi, hsl⟩, hSl, hold, hn14, hfm, hrow, hfs, hsv⟩ := id hH
  refine g_aload_0 dX7_shear_18 ?_
  refine g_get dX7_shear_19 (fX7_12 rfl) ho rfl ?_
  refine g_iload_1 dX7_shear_22 ?_
  refine g_v1 dX7_shear_23 (vX7_256 rfl) rfl hA.1 (Nat.le_of_ble_eq_true rfl) (Nat.le_of_ble_eq_true rfl) (Nat.le_of_ble_eq_true rfl) (q_shearTo hF hI (by omega) (by omega)) (fun r M2 z2 hq => ?_) (fun E M2 z2 hq => by obtain ⟨hq, -⟩ := hq; cases hq)
  obtain ⟨hr, hF3, hO3, rfl⟩ := hq
  cases hr
  exact g_ireturn rfl rfl dX7_shear_26 (Nat.le_of_ble_eq_true rfl) (Nat.le_of_ble_eq_true rfl) ⟨rfl, hC2.rug hO3 hF3, hX2.tr (CFr.of hO3 (by omega) (by omega))⟩
theorem c_shear_x1 (hC : CInv M a lo z f n h sv len g) (hI : Rng f) (hx : x < nI 1 ∨ nI 9 < x) : Runs mX7_shear [.ref a, .int x] M z (gE IAE M z) := by
  obtain ⟨ho, hF, ⟨ft, hFt⟩, hH, hS, ⟨sc, pl, gr, ti, lv, od, bk, hP⟩, ⟨O, Rq, rc, Cq, hAr⟩, l1, l2⟩ := id hC
  obtain ⟨R, ln, sg, hA, hRel⟩ := id hF
  obtain ⟨r0, r1, r2, ⟨k3, k4, k5, k6, k7⟩, ⟨s0, s1, s2, s3, s4, s5⟩, m1, m2, m3⟩ := id hRel
  refine runs_of plX7 rfl (Nat.le_of_ble_eq_true rfl) ?_
  show WP mX7_shear 0 [some (.ref a), some (.int x)] [] M z 0 0 _
  refine g_iload_1 dX7_shear_0 ?_
  refine g_iconst (v := nI 1) dX7_shear_1 rfl ?_
  refine g_bipush (v := nI 9) dX7_shear_2 rfl ?_
  refine g_s3_x dX7_shear_4 (sX7_51 rfl) rfl (Nat.le_of_ble_eq_true rfl) (Nat.le_of_ble_eq_true rfl) (Nat.le_of_ble_eq_true rfl) (c_needRange_x hx) (fun z2 hz2 => ?_)
  exact x_out rfl (Nat.le_of_ble_eq_true rfl) (Nat.le_of_ble_eq_true rfl) ⟨rfl, rfl, hz2⟩
def f_store (f : Row) (s len : Nat) (g : Nat → Nat) : Row := fun k => if k = 463 + s then nI len else if 467 + 120 * s ≤ k ∧ k < 467 + 120 * s + 120 then (if k - (467 + 120 * s) < len then nI (g (k - (467 + 120 * s))) else nI 0) else f k
theorem st_ne {k : Nat} (h1 : k ≠ 463 + s) (h2 : k < 467 + 120 * s ∨ 467 + 120 * s + 120 ≤ k) : f_store f s len g k = f k := by
  unfold f_store
  rw [if_neg h1, if_neg (by omega)]
theorem st_ln : f_store f s len g (463 + s) = nI len := if_pos rfl
theorem st_sg (hs : s < 4) (hi : i < len) (hl : len ≤ 120) : f_store f s len g (467 + 120 * s + i) = nI (g i) := by
  unfold f_store
  rw [if_neg (by omega), if_pos (by omega), show 467 + 120 * s + i - (467 + 120 * s) = i from by omega, if_pos hi]
theorem q_keepF {M : Hp} {a tx : Nat} (hF : RugF M a f) (hs : s < 4) (hS : ScriptAt M tx len g) (hg : CharsOK g) (hl : len ≤ 120) (hd : tx + 2 ≤ a ∨ a + 20 ≤ tx) : Runs mX4_keepMotif [.ref a, .int (nI s), .ref tx] M z (Mut none M a (f_store f s len g) z) := by
  obtain ⟨R, ln, sg, hA, hRel⟩ := hF
  obtain ⟨h1, h2, h3, ⟨fm, hm, hfm⟩, hsc⟩ := hA
  refine c_mono (q_keepMotif h1 hm hs (hfm s hs) (hsc s hs) hS hg (by omega)) (fun r M' z' hq => ?_)
  obtain ⟨hr, hS', hO, hz⟩ := hq
  have hk : ∀ q, (q < a + (12 + 2 * s) ∨ a + (12 + 2 * s) + 2 ≤ q) → M' q = M q := fun q hq => hO q (by omega)
  obtain ⟨r0, r1, r2, ⟨k3, k4, k5, k6, k7⟩, ⟨s0, s1, s2, s3, s4, s5⟩, m1, m2, m3⟩ := hRel
  refine ⟨hr, ⟨R, fun i => if i = s then len else ln i, fun i => if i = s then mx 120 g (sg s) else sg i, ⟨(hk _ (by omega)).trans h1, h2.keep (fun q _ _ => hk q (by omega)), h3.keep (fun q _ _ => hk q (by omega)), ⟨fm, (hk _ (by omega)).trans hm, hfm⟩, fun i hi => ?_⟩, ?_⟩, fun q hq => hk q (by omega), hz⟩
  · dsimp only
    by_cases e : i = s
    · subst e
      rw [if_pos rfl, if_pos rfl]
      exact hS'
    · rw [if_neg e, if_neg e]
      exact (hsc i hi).keep (fun q _ _ => hk q (by omega))
  · have e : ∀ k, k < 463 → f_store f s len g k = f k := fun k hk => st_ne (by omega) (by omega)
    refine ⟨fun k hk => by rw [e _ (by omega)]; exact r0 k hk, fun k hk => by rw [e _ (by omega)]; exact r1 k hk, fun k hk => by rw [e _ (by omega), e _ (by omega)]; exact r2 k hk, ⟨fun k hk => by rw [e _ (by omega)]; exact k3 k hk, fun k hk => by rw [e _ (by omega)]; exact k4 k hk, fun k hk => by rw [e _ (by omega)]; exact k5 k hk, fun k hk => by rw [e _ (by omega)]; exact k6 k hk, fun k hk => by rw [e _ (by omega)]; exact k7 k hk⟩, ⟨by rw [e _ (by omega)]; exact s0, by rw [e _ (by omega)]; exact s1, by rw [e _ (by omega)]; exact s2, by rw [e _ (by omega)]; exact s3, by rw [e _ (by omega)]; exact s4, by rw [e _ (by omega)]; exact s5⟩, fun i hi => ?_, fun i hi q hq => ?_, fun i => ?_⟩
    · dsimp only
      by_cases e9 : i = s
      · subst e9
        rw [if_pos rfl]
        exact ⟨hl, st_ln⟩
      · rw [if_neg e9, st_ne (by omega) (by omega)]
        exact m1 i hi
    · dsimp only at hq ⊢
      by_cases e9 : i = s
      · subst e9
        rw [if_pos rfl] at hq
        rw [if_pos rfl, st_sg hi hq hl, mx_lt (by omega)]
      · rw [if_neg e9] at hq
        have := (m1 i hi).1
        rw [if_neg e9, st_ne (by omega) (by omega)]
        exact m2 i hi q hq
    · show CharsOK (if i = s then mx 120 g (sg s) else sg i)
      split
      · exact chars_mx (m3 s) hg
      · exact m3 i
theorem c_store (hC : CInv M a lo z f n h sv len g) (hI : Rng f) (hs : s < 4) (hg : CharsOK g) (hl : len ≤ 120) (ht : TxOK g len) (hm : hasM g len s len 0 = false) : Runs mX7_store [.ref a, .int (nI s)] M z (CQ (some (.int (nI len))) M a lo (f_store f s len g) (remN n) (remH n h f) sv len g z) := by
  obtain ⟨ho, hF, ⟨ft, hFt⟩, hH, hS, ⟨sc, pl, gr, ti, lv, od, bk, hP⟩, ⟨O, Rq, rc, Cq, hAr⟩, l1, l2⟩ := id hC
  obtain ⟨R, ln, sg, hA, hRel⟩ := id hF
  obtain ⟨r0, r1, r2, ⟨k3, k4, k5, k6, k7⟩, ⟨s0, s1, s2, s3, s4, s5⟩, m1, m2, m3⟩ := id hRel
  obtain ⟨old, P, rows, fm, fs, ⟨hHi, hsl⟩, hSl, hold, hn14, hfm, hrow, hfs, hsv⟩ := id hH
  refine runs_of plX7 rfl (Nat.le_of_ble_eq_true rfl) ?_
  show WP mX7_store 0 [some (.ref a), some (.int (nI s))] [] M z 0 0 _
  refine g_iload_1 dX7_store_0 ?_
  refine g_s1_0r dX7_store_1 (sX7_177 rfl) rfl (Nat.le_of_ble_eq_true rfl) (Nat.le_of_ble_eq_true rfl) (Nat.le_of_ble_eq_true rfl) (c_needMotif_ok hs) ?_
  refine g_aload_0 dX7_store_4 ?_
  refine g_v0_0r dX7_store_5 (vX7_259 rfl) rfl ho (Nat.le_of_ble_eq_true rfl) (Nat.le_of_ble_eq_true rfl) (Nat.le_of_ble_eq_true rfl) (c_needTxt_ok hC hg hl ht) ?_
  refine g_aload_0 dX7_store_8 ?_
  refine g_get dX7_store_9 (fX7_33 rfl) ho rfl ?_
  refine g_iload_1 dX7_store_12 ?_
  refine g_v1_1 dX7_store_13 (vX7_262 rfl) rfl hS.1 (Nat.le_of_ble_eq_true rfl) ⟨rfl, rfl⟩ (Nat.le_of_ble_eq_true rfl) (Nat.le_of_ble_eq_true rfl) (c_hasMotif hS hg hl) ?_
  refine g_if_eqB (tgt := 30) dX7_store_16 (by decide)  (fun _ => ?_) (fun h16 => absurd (h16.symm.trans hm) (by decide))
  refine g_aload_0 dX7_store_30 ?_
  refine g_get dX7_store_31 (fX7_26 rfl) ho rfl ?_
  refine g_aload_0 dX7_store_34 ?_
  refine g_get dX7_store_35 (fX7_12 rfl) ho rfl ?_
  refine g_v1 dX7_store_38 (vX7_193 rfl) rfl hHi.1 (Nat.le_of_ble_eq_true rfl) (Nat.le_of_ble_eq_true rfl) (Nat.le_of_ble_eq_true rfl) (q_remC hC) (fun r M2 z2 hq => ?_) (fun E M2 z2 hq => by obtain ⟨hq, -⟩ := hq; cases hq)
  obtain ⟨hr, hC2, hX2⟩ := hq
  cases hr
  obtain ⟨ho, hF, ⟨ft, hFt⟩, hH, hS, ⟨sc, pl, gr, ti, lv, od, bk, hP⟩, ⟨O, Rq, rc, Cq, hAr⟩, l1, l2⟩ := id hC2
  obtain ⟨R, ln, sg, hA, hRel⟩ := id hF
  obtain ⟨r0, r1, r2, ⟨k3, k4, k5, k6, k7⟩, ⟨s0, s1, s2, s3, s4, s5⟩, m1, m2, m3⟩ := id hRel
  obtain ⟨old, P, rows, fm, fs, ⟨hHi, hsl⟩, hSl, hold, hn14, hfm, hrow, hfs, hsv⟩ := id hH
  refine g_aload_0 dX7_store_41 ?_
  refine g_get dX7_store_42 (fX7_12 rfl) ho rfl ?_
  refine g_iload_1 dX7_store_45 ?_
  refine g_aload_0 dX7_store_46 ?_
  refine g_get dX7_store_47 (fX7_33 rfl) ho rfl ?_
  refine g_v2 dX7_store_50 (vX7_267 rfl) rfl hA.1 (Nat.le_of_ble_eq_true rfl) (Nat.le_of_ble_eq_true rfl) (Nat.le_of_ble_eq_true rfl) (q_keepF hF hs hS hg hl (by omega)) (fun r M2 z2 hq => ?_) (fun E M2 z2 hq => by obtain ⟨hq, -⟩ := hq; cases hq)
  obtain ⟨hr, hF3, hO3, rfl⟩ := hq
  cases hr
  have ho := (hO3 a (by omega)).trans ho
  have hS3 := hS.keep (M' := M2) (fun q _ _ => hO3 q (by omega))
  obtain ⟨R, ln, sg, hA, hRel⟩ := id hF3
  obtain ⟨r0, r1, r2, ⟨k3, k4, k5, k6, k7⟩, ⟨s0, s1, s2, s3, s4, s5⟩, m1, m2, m3⟩ := id hRel
  refine g_aload_0 dX7_store_53 ?_
  refine g_get dX7_store_54 (fX7_33 rfl) ho rfl ?_
  refine g_get dX7_store_57 (fX7_55 rfl) hS3.1 rfl ?_
  exact g_ireturn rfl rfl dX7_store_60 (Nat.le_of_ble_eq_true rfl) (Nat.le_of_ble_eq_true rfl) ⟨rfl, hC2.rug hO3 hF3, hX2.tr (CFr.of hO3 (by omega) (by omega))⟩
theorem c_store_x2 (hC : CInv M a lo z f n h sv len g) (hI : Rng f) (hs : s < 4) (hg : CharsOK g) (hl : len ≤ 120) (ht : ¬ TxOK g len) : Runs mX7_store [.ref a, .int (nI s)] M z (gE ISE M z) := by
  obtain ⟨ho, hF, ⟨ft, hFt⟩, hH, hS, ⟨sc, pl, gr, ti, lv, od, bk, hP⟩, ⟨O, Rq, rc, Cq, hAr⟩, l1, l2⟩ := id hC
  obtain ⟨R, ln, sg, hA, hRel⟩ := id hF
  obtain ⟨r0, r1, r2, ⟨k3, k4, k5, k6, k7⟩, ⟨s0, s1, s2, s3, s4, s5⟩, m1, m2, m3⟩ := id hRel
  refine runs_of plX7 rfl (Nat.le_of_ble_eq_true rfl) ?_
  show WP mX7_store 0 [some (.ref a), some (.int (nI s))] [] M z 0 0 _
  refine g_iload_1 dX7_store_0 ?_
  refine g_s1_0r dX7_store_1 (sX7_177 rfl) rfl (Nat.le_of_ble_eq_true rfl) (Nat.le_of_ble_eq_true rfl) (Nat.le_of_ble_eq_true rfl) (c_needMotif_ok hs) ?_
  refine g_aload_0 dX7_store_4 ?_
  refine g_v0_x dX7_store_5 (vX7_259 rfl) rfl ho (Nat.le_of_ble_eq_true rfl) (Nat.le_of_ble_eq_true rfl) (Nat.le_of_ble_eq_true rfl) (c_needTxt_x hC hg hl ht) (fun z2 hz2 => ?_)
  exact x_out rfl (Nat.le_of_ble_eq_true rfl) (Nat.le_of_ble_eq_true rfl) ⟨rfl, rfl, hz2⟩
theorem c_store_x3 (hC : CInv M a lo z f n h sv len g) (hI : Rng f) (hs : s < 4) (hg : CharsOK g) (hl : len ≤ 120) (ht : TxOK g len) (hm : hasM g len s len 0 = true) : Runs mX7_store [.ref a, .int (nI s)] M z (gE ISE M z) := by
  obtain ⟨ho, hF, ⟨ft, hFt⟩, hH, hS, ⟨sc, pl, gr, ti, lv, od, bk, hP⟩, ⟨O, Rq, rc, Cq, hAr⟩, l1, l2⟩ := id hC
  obtain ⟨R, ln, sg, hA, hRel⟩ := id hF
  obtain ⟨r0, r1, r2, ⟨k3, k4, k5, k6, k7⟩, ⟨s0, s1, s2, s3, s4, s5⟩, m1, m2, m3⟩ := id hRel
  refine runs_of plX7 rfl (Nat.le_of_ble_eq_true rfl) ?_
  show WP mX7_store 0 [some (.ref a), some (.int (nI s))] [] M z 0 0 _
  refine g_iload_1 dX7_store_0 ?_
  refine g_s1_0r dX7_store_1 (sX7_177 rfl) rfl (Nat.le_of_ble_eq_true rfl) (Nat.le_of_ble_eq_true rfl) (Nat.le_of_ble_eq_true rfl) (c_needMotif_ok hs) ?_
  refine g_aload_0 dX7_store_4 ?_
  refine g_v0_0r dX7_store_5 (vX7_259 rfl) rfl ho (Nat.le_of_ble_eq_true rfl) (Nat.le_of_ble_eq_true rfl) (Nat.le_of_ble_eq_true rfl) (c_needTxt_ok hC hg hl ht) ?_
  refine g_aload_0 dX7_store_8 ?_
  refine g_get dX7_store_9 (fX7_33 rfl) ho rfl ?_
  refine g_iload_1 dX7_store_12 ?_
  refine g_v1_1 dX7_store_13 (vX7_262 rfl) rfl hS.1 (Nat.le_of_ble_eq_true rfl) ⟨rfl, rfl⟩ (Nat.le_of_ble_eq_true rfl) (Nat.le_of_ble_eq_true rfl) (c_hasMotif hS hg hl) ?_
  refine g_if_eqB (tgt := 30) dX7_store_16 (by decide)  (fun h16 => absurd (h16.symm.trans hm) (by decide)) (fun _ => ?_)
  exact g_throw (tX7_265 rfl) rfl dX7_store_19 dX7_store_22 (Or.inr ⟨dX7_store_23, dX7_store_26, dX7_store_29⟩) (Nat.le_of_ble_eq_true rfl) (Nat.le_of_ble_eq_true rfl) (Nat.le_of_ble_eq_true rfl) (Nat.le_of_ble_eq_true rfl) (fun z2 hz2 => ⟨rfl, rfl, hz2⟩)
theorem c_run (hC : CInv M a lo z f n h sv len g) (hI : Rng f) (hs : s < 4) (hg : CharsOK g) (hM : MotOK f) (h0 : 0 < mLn f s) : Runs mX7_run [.ref a, .int (nI s)] M z (CQ (some (.int (nI (prun (TT f g) (LL' f 0) 4001 f [(s, 0, 0, 0)] 0 0).2))) M a lo ((prun (TT f g) (LL' f 0) 4001 f [(s, 0, 0, 0)] 0 0).1) (remN n) (remH n h f) sv len g z) := by
  obtain ⟨ho, hF, ⟨ft, hFt⟩, hH, hS, ⟨sc, pl, gr, ti, lv, od, bk, hP⟩, ⟨O, Rq, rc, Cq, hAr⟩, l1, l2⟩ := id hC
  obtain ⟨R, ln, sg, hA, hRel⟩ := id hF
  obtain ⟨r0, r1, r2, ⟨k3, k4, k5, k6, k7⟩, ⟨s0, s1, s2, s3, s4, s5⟩, m1, m2, m3⟩ := id hRel
  obtain ⟨old, P, rows, fm, fs, ⟨hHi, hsl⟩, hSl, hold, hn14, hfm, hrow, hfs, hsv⟩ := id hH
  refine runs_of plX7 rfl (Nat.le_of_ble_eq_true rfl) ?_
  show WP mX7_run 0 [some (.ref a), some (.int (nI s)), none] [] M z 0 0 _
  refine g_iload_1 dX7_run_0 ?_
  refine g_s1_0r dX7_run_1 (sX7_177 rfl) rfl (Nat.le_of_ble_eq_true rfl) (Nat.le_of_ble_eq_true rfl) (Nat.le_of_ble_eq_true rfl) (c_needMotif_ok hs) ?_
  refine g_aload_0 dX7_run_4 ?_
  refine g_get dX7_run_5 (fX7_12 rfl) ho rfl ?_
  refine g_iload_1 dX7_run_8 ?_
  refine g_v1_1 dX7_run_9 (vX7_180 rfl) rfl hA.1 (Nat.le_of_ble_eq_true rfl) ⟨rfl, rfl⟩ (Nat.le_of_ble_eq_true rfl) (Nat.le_of_ble_eq_true rfl) (q_motifAt1 hF hs (hM s hs).1.1 (mLn_le hM hs) h0) ?_
  refine g_astore_2 rfl dX7_run_12 ?_
  refine g_aload_2 dX7_run_13 ?_
  refine g_ifnonnull (tgt := 28) dX7_run_14 (by decide) ?_
  refine g_aload_0 dX7_run_28 ?_
  refine g_get dX7_run_29 (fX7_26 rfl) ho rfl ?_
  refine g_aload_0 dX7_run_32 ?_
  refine g_get dX7_run_33 (fX7_12 rfl) ho rfl ?_
  refine g_v1 dX7_run_36 (vX7_193 rfl) rfl hHi.1 (Nat.le_of_ble_eq_true rfl) (Nat.le_of_ble_eq_true rfl) (Nat.le_of_ble_eq_true rfl) (q_remC hC) (fun r M2 z2 hq => ?_) (fun E M2 z2 hq => by obtain ⟨hq, -⟩ := hq; cases hq)
  obtain ⟨hr, hC2, hX2⟩ := hq
  cases hr
  obtain ⟨ho, hF, ⟨ft, hFt⟩, hH, hS, ⟨sc, pl, gr, ti, lv, od, bk, hP⟩, ⟨O, Rq, rc, Cq, hAr⟩, l1, l2⟩ := id hC2
  obtain ⟨R, ln, sg, hA, hRel⟩ := id hF
  obtain ⟨r0, r1, r2, ⟨k3, k4, k5, k6, k7⟩, ⟨s0, s1, s2, s3, s4, s5⟩, m1, m2, m3⟩ := id hRel
  obtain ⟨old, P, rows, fm, fs, ⟨hHi, hsl⟩, hSl, hold, hn14, hfm, hrow, hfs, hsv⟩ := id hH
  refine g_aload_0 dX7_run_39 ?_
  refine g_get dX7_run_40 (fX7_40 rfl) ho rfl ?_
  refine g_aload_0 dX7_run_43 ?_
  refine g_get dX7_run_44 (fX7_12 rfl) ho rfl ?_
  refine g_aload_2 dX7_run_47 ?_
  refine g_v2 dX7_run_48 (vX7_273 rfl) rfl hP.1 (Nat.le_of_ble_eq_true rfl) (Nat.le_of_ble_eq_true rfl) (Nat.le_of_ble_eq_true rfl) (q_playS (T := TT f g) (Ln := LL' f 0) (s := s) hP (by omega) hF hI hM.txf (hM.txts hg (by omega) (Or.inl rfl)) hs) (fun r M2 z2 hq => ?_) (fun E M2 z2 hq => by obtain ⟨hq, -⟩ := hq; cases hq)
  obtain ⟨hr, hF3, hP3, hO3, rfl⟩ := hq
  cases hr
  exact g_ireturn rfl rfl dX7_run_51 (Nat.le_of_ble_eq_true rfl) (Nat.le_of_ble_eq_true rfl) ⟨rfl, hC2.playR hO3 hF3 hP3, hX2.tr (CFr.pl hO3 (by omega) (by omega))⟩
theorem c_run_x2 (hC : CInv M a lo z f n h sv len g) (hI : Rng f) (hs : s < 4) (hM : MotOK f) (h0 : mLn f s = 0) : Runs mX7_run [.ref a, .int (nI s)] M z (gE ISE M z) := by
  obtain ⟨ho, hF, ⟨ft, hFt⟩, hH, hS, ⟨sc, pl, gr, ti, lv, od, bk, hP⟩, ⟨O, Rq, rc, Cq, hAr⟩, l1, l2⟩ := id hC
  obtain ⟨R, ln, sg, hA, hRel⟩ := id hF
  obtain ⟨r0, r1, r2, ⟨k3, k4, k5, k6, k7⟩, ⟨s0, s1, s2, s3, s4, s5⟩, m1, m2, m3⟩ := id hRel
  refine runs_of plX7 rfl (Nat.le_of_ble_eq_true rfl) ?_
  show WP mX7_run 0 [some (.ref a), some (.int (nI s)), none] [] M z 0 0 _
  refine g_iload_1 dX7_run_0 ?_
  refine g_s1_0r dX7_run_1 (sX7_177 rfl) rfl (Nat.le_of_ble_eq_true rfl) (Nat.le_of_ble_eq_true rfl) (Nat.le_of_ble_eq_true rfl) (c_needMotif_ok hs) ?_
  refine g_aload_0 dX7_run_4 ?_
  refine g_get dX7_run_5 (fX7_12 rfl) ho rfl ?_
  refine g_iload_1 dX7_run_8 ?_
  refine g_v1_1 dX7_run_9 (vX7_180 rfl) rfl hA.1 (Nat.le_of_ble_eq_true rfl) ⟨rfl, rfl⟩ (Nat.le_of_ble_eq_true rfl) (Nat.le_of_ble_eq_true rfl) (q_motifAt0 hF hs (hM s hs).1.1 (mLn_le hM hs) h0) ?_
  refine g_astore_2N rfl dX7_run_12 ?_
  refine g_aload_2N dX7_run_13 ?_
  refine g_ifnonnullN dX7_run_14 ?_
  exact g_throw (tX7_271 rfl) rfl dX7_run_17 dX7_run_20 (Or.inr ⟨dX7_run_21, dX7_run_24, dX7_run_27⟩) (Nat.le_of_ble_eq_true rfl) (Nat.le_of_ble_eq_true rfl) (Nat.le_of_ble_eq_true rfl) (Nat.le_of_ble_eq_true rfl) (fun z2 hz2 => ⟨rfl, rfl, hz2⟩)
theorem c_runText (hC : CInv M a lo z f n h sv len g) (hI : Rng f) (hg : CharsOK g) (hl : len ≤ 120) (hM : MotOK f) (ht : TxOK g len) : Runs mX7_runText [.ref a] M z (CQ (some ((.int (nI (prun (TT f g) (LL' f len) 4001 f [(4, 0, 0, 0)] 0 0).2)))) M a lo ((prun (TT f g) (LL' f len) 4001 f [(4, 0, 0, 0)] 0 0).1) (remN n) (remH n h f) sv len g z) := by
  obtain ⟨ho, hF, ⟨ft, hFt⟩, hH, hS, ⟨sc, pl, gr, ti, lv, od, bk, hP⟩, ⟨O, Rq, rc, Cq, hAr⟩, l1, l2⟩ := id hC
  obtain ⟨R, ln, sg, hA, hRel⟩ := id hF
  obtain ⟨r0, r1, r2, ⟨k3, k4, k5, k6, k7⟩, ⟨s0, s1, s2, s3, s4, s5⟩, m1, m2, m3⟩ := id hRel
  obtain ⟨old, P, rows, fm, fs, ⟨hHi, hsl⟩, hSl, hold, hn14, hfm, hrow, hfs, hsv⟩ := id hH
  refine runs_of plX7 rfl (Nat.le_of_ble_eq_true rfl) ?_
  show WP mX7_runText 0 [some (.ref a)] [] M z 0 0 _
  refine g_aload_0 dX7_runText_0 ?_
  refine g_v0_0r dX7_runText_1 (vX7_259 rfl) rfl ho (Nat.le_of_ble_eq_true rfl) (Nat.le_of_ble_eq_true rfl) (Nat.le_of_ble_eq_true rfl) (c_needTxt_ok hC hg hl ht) ?_
  refine g_aload_0 dX7_runText_4 ?_
  refine g_get dX7_runText_5 (fX7_26 rfl) ho rfl ?_
  refine g_aload_0 dX7_runText_8 ?_
  refine g_get dX7_runText_9 (fX7_12 rfl) ho rfl ?_
  refine g_v1 dX7_runText_12 (vX7_193 rfl) rfl hHi.1 (Nat.le_of_ble_eq_true rfl) (Nat.le_of_ble_eq_true rfl) (Nat.le_of_ble_eq_true rfl) (q_remC hC) (fun r M2 z2 hq => ?_) (fun E M2 z2 hq => by obtain ⟨hq, -⟩ := hq; cases hq)
  obtain ⟨hr, hC2, hX2⟩ := hq
  cases hr
  obtain ⟨ho, hF, ⟨ft, hFt⟩, hH, hS, ⟨sc, pl, gr, ti, lv, od, bk, hP⟩, ⟨O, Rq, rc, Cq, hAr⟩, l1, l2⟩ := id hC2
  obtain ⟨R, ln, sg, hA, hRel⟩ := id hF
  obtain ⟨r0, r1, r2, ⟨k3, k4, k5, k6, k7⟩, ⟨s0, s1, s2, s3, s4, s5⟩, m1, m2, m3⟩ := id hRel
  obtain ⟨old, P, rows, fm, fs, ⟨hHi, hsl⟩, hSl, hold, hn14, hfm, hrow, hfs, hsv⟩ := id hH
  refine g_aload_0 dX7_runText_15 ?_
  refine g_get dX7_runText_16 (fX7_40 rfl) ho rfl ?_
  refine g_aload_0 dX7_runText_19 ?_
  refine g_get dX7_runText_20 (fX7_12 rfl) ho rfl ?_
  refine g_aload_0 dX7_runText_23 ?_
  refine g_get dX7_runText_24 (fX7_33 rfl) ho rfl ?_
  refine g_v2 dX7_runText_27 (vX7_273 rfl) rfl hP.1 (Nat.le_of_ble_eq_true rfl) (Nat.le_of_ble_eq_true rfl) (Nat.le_of_ble_eq_true rfl) (q_play4 (T := TT f g) (Ln := LL' f len) (tx := a + 44) hP (by omega) (by omega) (by omega) hF hI hM.txf (hM.txts hg hl (Or.inr ht)) hS) (fun r M2 z2 hq => ?_) (fun E M2 z2 hq => by obtain ⟨hq, -⟩ := hq; cases hq)
  obtain ⟨hr, hF3, hP3, hO3, rfl⟩ := hq
  cases hr
  exact g_ireturn rfl rfl dX7_runText_30 (Nat.le_of_ble_eq_true rfl) (Nat.le_of_ble_eq_true rfl) ⟨rfl, hC2.playR hO3 hF3 hP3, hX2.tr (CFr.pl hO3 (by omega) (by omega))⟩
theorem c_runText_x1 (hC : CInv M a lo z f n h sv len g) (hI : Rng f) (hg : CharsOK g) (hl : len ≤ 120) (ht : ¬ TxOK g len) : Runs mX7_runText [.ref a] M z (gE ISE M z) := by
  obtain ⟨ho, hF, ⟨ft, hFt⟩, hH, hS, ⟨sc, pl, gr, ti, lv, od, bk, hP⟩, ⟨O, Rq, rc, Cq, hAr⟩, l1, l2⟩ := id hC
  obtain ⟨R, ln, sg, hA, hRel⟩ := id hF
  obtain ⟨r0, r1, r2, ⟨k3, k4, k5, k6, k7⟩, ⟨s0, s1, s2, s3, s4, s5⟩, m1, m2, m3⟩ := id hRel
  refine runs_of plX7 rfl (Nat.le_of_ble_eq_true rfl) ?_
  show WP mX7_runText 0 [some (.ref a)] [] M z 0 0 _
  refine g_aload_0 dX7_runText_0 ?_
  refine g_v0_x dX7_runText_1 (vX7_259 rfl) rfl ho (Nat.le_of_ble_eq_true rfl) (Nat.le_of_ble_eq_true rfl) (Nat.le_of_ble_eq_true rfl) (c_needTxt_x hC hg hl ht) (fun z2 hz2 => ?_)
  exact x_out rfl (Nat.le_of_ble_eq_true rfl) (Nat.le_of_ble_eq_true rfl) ⟨rfl, rfl, hz2⟩
theorem c_undo (hC : CInv M a lo z f (n + 1) h sv len g) : Runs mX7_undo [.ref a] M z (CQ (some (.int (nI n))) M a lo (mx 947 (h n) f) n h sv len g z) := by
  obtain ⟨ho, hF, ⟨ft, hFt⟩, hH, hS, ⟨sc, pl, gr, ti, lv, od, bk, hP⟩, ⟨O, Rq, rc, Cq, hAr⟩, l1, l2⟩ := id hC
  obtain ⟨R, ln, sg, hA, hRel⟩ := id hF
  obtain ⟨r0, r1, r2, ⟨k3, k4, k5, k6, k7⟩, ⟨s0, s1, s2, s3, s4, s5⟩, m1, m2, m3⟩ := id hRel
  obtain ⟨old, P, rows, fm, fs, ⟨hHi, hsl⟩, hSl, hold, hn14, hfm, hrow, hfs, hsv⟩ := id hH
  refine runs_of plX7 rfl (Nat.le_of_ble_eq_true rfl) ?_
  show WP mX7_undo 0 [some (.ref a)] [] M z 0 0 _
  refine g_aload_0 dX7_undo_0 ?_
  refine g_get dX7_undo_1 (fX7_26 rfl) ho rfl ?_
  refine g_get dX7_undo_4 (fX7_277 rfl) hHi.1 rfl ?_
  refine g_if_neN (tgt := 21) dX7_undo_7 (by decide) (by omega) (fun _ => ?_) (fun h7 => absurd h7 (by omega))
  refine g_aload_0 dX7_undo_21 ?_
  refine g_get dX7_undo_22 (fX7_26 rfl) ho rfl ?_
  refine g_aload_0 dX7_undo_25 ?_
  refine g_get dX7_undo_26 (fX7_12 rfl) ho rfl ?_
  refine g_v1 dX7_undo_29 (vX7_282 rfl) rfl hHi.1 (Nat.le_of_ble_eq_true rfl) (Nat.le_of_ble_eq_true rfl) (Nat.le_of_ble_eq_true rfl) (q_backC hC) (fun r M2 z2 hq => ?_) (fun E M2 z2 hq => by obtain ⟨hq, -⟩ := hq; cases hq)
  obtain ⟨hr, hC2, hX2⟩ := hq
  cases hr
  obtain ⟨ho, hF, ⟨ft, hFt⟩, hH, hS, ⟨sc, pl, gr, ti, lv, od, bk, hP⟩, ⟨O, Rq, rc, Cq, hAr⟩, l1, l2⟩ := id hC2
  obtain ⟨R, ln, sg, hA, hRel⟩ := id hF
  obtain ⟨r0, r1, r2, ⟨k3, k4, k5, k6, k7⟩, ⟨s0, s1, s2, s3, s4, s5⟩, m1, m2, m3⟩ := id hRel
  obtain ⟨old, P, rows, fm, fs, ⟨hHi, hsl⟩, hSl, hold, hn14, hfm, hrow, hfs, hsv⟩ := id hH
  refine g_aload_0 dX7_undo_32 ?_
  refine g_get dX7_undo_33 (fX7_26 rfl) ho rfl ?_
  refine g_get dX7_undo_36 (fX7_277 rfl) hHi.1 rfl ?_
  exact g_ireturn rfl rfl dX7_undo_39 (Nat.le_of_ble_eq_true rfl) (Nat.le_of_ble_eq_true rfl) ⟨rfl, hC2.cong mx_eq9, hX2⟩
theorem c_undo_x1 (hC : CInv M a lo z f 0 h sv len g) : Runs mX7_undo [.ref a] M z (gE ISE M z) := by
  obtain ⟨ho, hF, ⟨ft, hFt⟩, hH, hS, ⟨sc, pl, gr, ti, lv, od, bk, hP⟩, ⟨O, Rq, rc, Cq, hAr⟩, l1, l2⟩ := id hC
  obtain ⟨R, ln, sg, hA, hRel⟩ := id hF
  obtain ⟨r0, r1, r2, ⟨k3, k4, k5, k6, k7⟩, ⟨s0, s1, s2, s3, s4, s5⟩, m1, m2, m3⟩ := id hRel
  obtain ⟨old, P, rows, fm, fs, ⟨hHi, hsl⟩, hSl, hold, hn14, hfm, hrow, hfs, hsv⟩ := id hH
  refine runs_of plX7 rfl (Nat.le_of_ble_eq_true rfl) ?_
  show WP mX7_undo 0 [some (.ref a)] [] M z 0 0 _
  refine g_aload_0 dX7_undo_0 ?_
  refine g_get dX7_undo_1 (fX7_26 rfl) ho rfl ?_
  refine g_get dX7_undo_4 (fX7_277 rfl) hHi.1 rfl ?_
  refine g_if_neN (tgt := 21) dX7_undo_7 (by decide) (by omega) (fun h7 => absurd rfl h7) (fun _ => ?_)
  exact g_throw (tX7_280 rfl) rfl dX7_undo_10 dX7_undo_13 (Or.inr ⟨dX7_undo_14, dX7_undo_17, dX7_undo_20⟩) (Nat.le_of_ble_eq_true rfl) (Nat.le_of_ble_eq_true rfl) (Nat.le_of_ble_eq_true rfl) (Nat.le_of_ble_eq_true rfl) (fun z2 hz2 => ⟨rfl, rfl, hz2⟩)
theorem CFr.of2 {M' : Hp} {p q : Nat} (hO : Out M M' p q) (h1 : a ≤ p) (h2 : p + q ≤ a + 55) {z z' : Nat} (hz : z' = z) : CFr M M' a lo z z' := ⟨by omega, fun k _ k2 => hO k (by omega)⟩
theorem c_couldSew (hC : CInv M a lo z f n h sv len g) (ft' : Row) (he : Eq9 f ft') (hIt : Rng ft') : Runs mX7_couldSew [.ref a] M z (CQ (some (.int (nI (f_sew 12 ft').2))) M a lo f n h sv len g z) := by
  obtain ⟨ho, hF, ⟨ft, hFt⟩, hH, hS, ⟨sc, pl, gr, ti, lv, od, bk, hP⟩, ⟨O, Rq, rc, Cq, hAr⟩, l1, l2⟩ := id hC
  obtain ⟨R, ln, sg, hA, hRel⟩ := id hF
  obtain ⟨r0, r1, r2, ⟨k3, k4, k5, k6, k7⟩, ⟨s0, s1, s2, s3, s4, s5⟩, m1, m2, m3⟩ := id hRel
  obtain ⟨Rt0, lnt0, sgt0, hAt0, hRelt0⟩ := id hFt
  refine runs_of plX7 rfl (Nat.le_of_ble_eq_true rfl) ?_
  show WP mX7_couldSew 0 [some (.ref a)] [] M z 0 0 _
  refine g_aload_0 dX7_couldSew_0 ?_
  refine g_get dX7_couldSew_1 (fX7_16 rfl) ho rfl ?_
  refine g_aload_0 dX7_couldSew_4 ?_
  refine g_get dX7_couldSew_5 (fX7_12 rfl) ho rfl ?_
  refine g_v1 dX7_couldSew_8 (vX7_285 rfl) rfl hAt0.1 (Nat.le_of_ble_eq_true rfl) (Nat.le_of_ble_eq_true rfl) (Nat.le_of_ble_eq_true rfl) (q_copyFrom hFt hF (by omega)) (fun r M2 z2 hq => ?_) (fun E M2 z2 hq => by obtain ⟨hq, -⟩ := hq; cases hq)
  obtain ⟨hr, hF2, hO2, hz2⟩ := hq
  cases hr
  have hX2 := CFr.of2 (a := a) (lo := lo) hO2 (by omega) (by omega) hz2
  subst hz2
  have hC2 := hC.trial hO2 hF2
  replace hF2 := hF2.cong he
  obtain ⟨ho, hF, ⟨ft, hFt⟩, hH, hS, ⟨sc, pl, gr, ti, lv, od, bk, hP⟩, ⟨O, Rq, rc, Cq, hAr⟩, l1, l2⟩ := id hC2
  obtain ⟨R, ln, sg, hA, hRel⟩ := id hF
  obtain ⟨r0, r1, r2, ⟨k3, k4, k5, k6, k7⟩, ⟨s0, s1, s2, s3, s4, s5⟩, m1, m2, m3⟩ := id hRel
  obtain ⟨Rt, lnt, sgt, hAt, hRelt⟩ := id hF2
  refine g_aload_0 dX7_couldSew_11 ?_
  refine g_get dX7_couldSew_12 (fX7_16 rfl) ho rfl ?_
  refine g_bipush (v := nI 12) dX7_couldSew_15 rfl ?_
  refine g_v1 dX7_couldSew_17 (vX7_224 rfl) rfl hAt.1 (Nat.le_of_ble_eq_true rfl) (Nat.le_of_ble_eq_true rfl) (Nat.le_of_ble_eq_true rfl) (q_sewUpTo hF2 hIt (by decide)) (fun r M2 z2 hq => ?_) (fun E M2 z2 hq => by obtain ⟨hq, -⟩ := hq; cases hq)
  obtain ⟨hr, hF3, hO3, hz3⟩ := hq
  cases hr
  have hX3 := CFr.of2 (a := a) (lo := lo) hO3 (by omega) (by omega) hz3
  subst hz3
  exact g_ireturn rfl rfl dX7_couldSew_20 (Nat.le_of_ble_eq_true rfl) (Nat.le_of_ble_eq_true rfl) ⟨rfl, hC2.trial hO3 hF3, hX2.tr hX3⟩
def TrQ (v : Option Value) (M : Hp) (a lo : Nat) (ft f : Row) (n : Nat) (h : Nat → Row) (sv : Nat → Option Row) (len : Nat) (g : Nat → Nat) (z : Nat) : GR → Hp → Nat → Prop := fun r M' z' => r = .inl v ∧ RugF M' (a + 21) ft ∧ CInv M' a lo z' f n h sv len g ∧ CFr M M' a lo z z'
theorem c_tryText (hC : CInv M a lo z f n h sv len g) (ft' : Row) (he : Eq9 f ft') (hIt : Rng ft') (hg : CharsOK g) (hl : len ≤ 120) (hM : MotOK ft') (ht : TxOK g len) : Runs mX7_tryText [.ref a] M z (TrQ none M a lo (prun (TT ft' g) (LL' ft' len) 4001 ft' [(4, 0, 0, 0)] 0 0).1 f n h sv len g z) := by
  obtain ⟨ho, hF, ⟨ft, hFt⟩, hH, hS, ⟨sc, pl, gr, ti, lv, od, bk, hP⟩, ⟨O, Rq, rc, Cq, hAr⟩, l1, l2⟩ := id hC
  obtain ⟨R, ln, sg, hA, hRel⟩ := id hF
  obtain ⟨r0, r1, r2, ⟨k3, k4, k5, k6, k7⟩, ⟨s0, s1, s2, s3, s4, s5⟩, m1, m2, m3⟩ := id hRel
  obtain ⟨Rt0, lnt0, sgt0, hAt0, hRelt0⟩ := id hFt
  refine runs_of plX7 rfl (Nat.le_of_ble_eq_true rfl) ?_
  show WP mX7_tryText 0 [some (.ref a)] [] M z 0 0 _
  refine g_aload_0 dX7_tryText_0 ?_
  refine g_get dX7_tryText_1 (fX7_16 rfl) ho rfl ?_
  refine g_aload_0 dX7_tryText_4 ?_
  refine g_get dX7_tryText_5 (fX7_12 rfl) ho rfl ?_
  refine g_v1 dX7_tryText_8 (vX7_285 rfl) rfl hAt0.1 (Nat.le_of_ble_eq_true rfl) (Nat.le_of_ble_eq_true rfl) (Nat.le_of_ble_eq_true rfl) (q_copyFrom hFt hF (by omega)) (fun r M2 z2 hq => ?_) (fun E M2 z2 hq => by obtain ⟨hq, -⟩ := hq; cases hq)
  obtain ⟨hr, hF2, hO2, hz2⟩ := hq
  cases hr
  have hX2 := CFr.of2 (a := a) (lo := lo) hO2 (by omega) (by omega) hz2
  subst hz2
  have hC2 := hC.trial hO2 hF2
  replace hF2 := hF2.cong he
  obtain ⟨ho, hF, ⟨ft, hFt⟩, hH, hS, ⟨sc, pl, gr, ti, lv, od, bk, hP⟩, ⟨O, Rq, rc, Cq, hAr⟩, l1, l2⟩ := id hC2
  obtain ⟨R, ln, sg, hA, hRel⟩ := id hF
  obtain ⟨r0, r1, r2, ⟨k3, k4, k5, k6, k7⟩, ⟨s0, s1, s2, s3, s4, s5⟩, m1, m2, m3⟩ := id hRel
  obtain ⟨Rt, lnt, sgt, hAt, hRelt⟩ := id hF2
  refine g_aload_0 dX7_tryText_11 ?_
  refine g_get dX7_tryText_12 (fX7_40 rfl) ho rfl ?_
  refine g_aload_0 dX7_tryText_15 ?_
  refine g_get dX7_tryText_16 (fX7_16 rfl) ho rfl ?_
  refine g_aload_0 dX7_tryText_19 ?_
  refine g_get dX7_tryText_20 (fX7_33 rfl) ho rfl ?_
  refine g_v2 dX7_tryText_23 (vX7_273 rfl) rfl hP.1 (Nat.le_of_ble_eq_true rfl) (Nat.le_of_ble_eq_true rfl) (Nat.le_of_ble_eq_true rfl) (q_play4 (T := TT ft' g) (Ln := LL' ft' len) (tx := a + 44) hP (by omega) (by omega) (by omega) hF2 hIt hM.txf (hM.txts hg hl (Or.inr ht)) hS) (fun r M2 z2 hq => ?_) (fun E M2 z2 hq => by obtain ⟨hq, -⟩ := hq; cases hq)
  obtain ⟨hr, hF3, hP3, hO3, hz3⟩ := hq
  cases hr
  subst hz3
  refine g_pop dX7_tryText_26 rfl ?_
  exact g_return rfl dX7_tryText_27 (Nat.le_of_ble_eq_true rfl) (Nat.le_of_ble_eq_true rfl) ⟨rfl, hF3, hC2.playT hO3 hF3 hP3, hX2.tr (CFr.pl hO3 (by omega) (by omega))⟩
theorem c_loopsBy (hC : CInv M a lo z f n h sv len g) (hI : Rng f) (ft' : Row) (he : Eq9 f ft') (hIt : Rng ft') (hg : CharsOK g) (hl : len ≤ 120) (hM : MotOK ft') (ht : TxOK g len) (hI2 : Rng (prun (TT ft' g) (LL' ft' len) 4001 ft' [(4, 0, 0, 0)] 0 0).1) : Runs mX7_loopsBy [.ref a] M z (CQ (some (.int (nI (cnt (fun i => hasL ((prun (TT ft' g) (LL' ft' len) 4001 ft' [(4, 0, 0, 0)] 0 0).1 (144 + i))) 144) - nI (cnt (fun i => hasL (f (144 + i))) 144)))) M a lo f n h sv len g z) := by
  obtain ⟨ho, hF, ⟨ft, hFt⟩, hH, hS, ⟨sc, pl, gr, ti, lv, od, bk, hP⟩, ⟨O, Rq, rc, Cq, hAr⟩, l1, l2⟩ := id hC
  obtain ⟨R, ln, sg, hA, hRel⟩ := id hF
  obtain ⟨r0, r1, r2, ⟨k3, k4, k5, k6, k7⟩, ⟨s0, s1, s2, s3, s4, s5⟩, m1, m2, m3⟩ := id hRel
  refine runs_of plX7 rfl (Nat.le_of_ble_eq_true rfl) ?_
  show WP mX7_loopsBy 0 [some (.ref a)] [] M z 0 0 _
  refine g_aload_0 dX7_loopsBy_0 ?_
  refine g_v0_0r dX7_loopsBy_1 (vX7_259 rfl) rfl ho (Nat.le_of_ble_eq_true rfl) (Nat.le_of_ble_eq_true rfl) (Nat.le_of_ble_eq_true rfl) (c_needTxt_ok hC hg hl ht) ?_
  refine g_aload_0 dX7_loopsBy_4 ?_
  refine g_v0 dX7_loopsBy_5 (vX7_294 rfl) rfl ho (Nat.le_of_ble_eq_true rfl) (Nat.le_of_ble_eq_true rfl) (Nat.le_of_ble_eq_true rfl) (c_tryText hC ft' he hIt hg hl hM ht) (fun r M2 z2 hq => ?_) (fun E M2 z2 hq => by obtain ⟨hq, -⟩ := hq; cases hq)
  obtain ⟨hr, hF2, hC2, hX2⟩ := hq
  cases hr
  obtain ⟨ho, hF, ⟨ft, hFt⟩, hH, hS, ⟨sc, pl, gr, ti, lv, od, bk, hP⟩, ⟨O, Rq, rc, Cq, hAr⟩, l1, l2⟩ := id hC2
  obtain ⟨R, ln, sg, hA, hRel⟩ := id hF
  obtain ⟨r0, r1, r2, ⟨k3, k4, k5, k6, k7⟩, ⟨s0, s1, s2, s3, s4, s5⟩, m1, m2, m3⟩ := id hRel
  obtain ⟨Rt, lnt, sgt, hAt, hRelt⟩ := id hF2
  refine g_aload_0 dX7_loopsBy_8 ?_
  refine g_get dX7_loopsBy_9 (fX7_16 rfl) ho rfl ?_
  refine g_get dX7_loopsBy_12 (fX7_78 rfl) hAt.1 rfl ?_
  refine g_v0_1 dX7_loopsBy_15 (vX7_104 rfl) rfl hAt.2.1.1 (Nat.le_of_ble_eq_true rfl) ⟨rfl, rfl⟩ (Nat.le_of_ble_eq_true rfl) (Nat.le_of_ble_eq_true rfl) (c_countLoops hAt.2.1) ?_
  rw [hRelt.cR hI2]
  refine g_aload_0 dX7_loopsBy_18 ?_
  refine g_get dX7_loopsBy_19 (fX7_12 rfl) ho rfl ?_
  refine g_get dX7_loopsBy_22 (fX7_78 rfl) hA.1 rfl ?_
  refine g_v0_1 dX7_loopsBy_25 (vX7_104 rfl) rfl hA.2.1.1 (Nat.le_of_ble_eq_true rfl) ⟨rfl, rfl⟩ (Nat.le_of_ble_eq_true rfl) (Nat.le_of_ble_eq_true rfl) (c_countLoops hA.2.1) ?_
  rw [hRel.cR hI]
  refine g_isub dX7_loopsBy_28 ?_
  exact g_ireturn rfl rfl dX7_loopsBy_29 (Nat.le_of_ble_eq_true rfl) (Nat.le_of_ble_eq_true rfl) ⟨rfl, hC2, hX2⟩
theorem c_needleBy (hC : CInv M a lo z f n h sv len g) (ft' : Row) (he : Eq9 f ft') (hIt : Rng ft') (hg : CharsOK g) (hl : len ≤ 120) (hM : MotOK ft') (ht : TxOK g len) : Runs mX7_needleBy [.ref a] M z (CQ (some (.int ((prun (TT ft' g) (LL' ft' len) 4001 ft' [(4, 0, 0, 0)] 0 0).1 457))) M a lo f n h sv len g z) := by
  obtain ⟨ho, hF, ⟨ft, hFt⟩, hH, hS, ⟨sc, pl, gr, ti, lv, od, bk, hP⟩, ⟨O, Rq, rc, Cq, hAr⟩, l1, l2⟩ := id hC
  obtain ⟨R, ln, sg, hA, hRel⟩ := id hF
  obtain ⟨r0, r1, r2, ⟨k3, k4, k5, k6, k7⟩, ⟨s0, s1, s2, s3, s4, s5⟩, m1, m2, m3⟩ := id hRel
  refine runs_of plX7 rfl (Nat.le_of_ble_eq_true rfl) ?_
  show WP mX7_needleBy 0 [some (.ref a)] [] M z 0 0 _
  refine g_aload_0 dX7_needleBy_0 ?_
  refine g_v0_0r dX7_needleBy_1 (vX7_259 rfl) rfl ho (Nat.le_of_ble_eq_true rfl) (Nat.le_of_ble_eq_true rfl) (Nat.le_of_ble_eq_true rfl) (c_needTxt_ok hC hg hl ht) ?_
  refine g_aload_0 dX7_needleBy_4 ?_
  refine g_v0 dX7_needleBy_5 (vX7_294 rfl) rfl ho (Nat.le_of_ble_eq_true rfl) (Nat.le_of_ble_eq_true rfl) (Nat.le_of_ble_eq_true rfl) (c_tryText hC ft' he hIt hg hl hM ht) (fun r M2 z2 hq => ?_) (fun E M2 z2 hq => by obtain ⟨hq, -⟩ := hq; cases hq)
  obtain ⟨hr, hF2, hC2, hX2⟩ := hq
  cases hr
  obtain ⟨ho, hF, ⟨ft, hFt⟩, hH, hS, ⟨sc, pl, gr, ti, lv, od, bk, hP⟩, ⟨O, Rq, rc, Cq, hAr⟩, l1, l2⟩ := id hC2
  obtain ⟨R, ln, sg, hA, hRel⟩ := id hF
  obtain ⟨r0, r1, r2, ⟨k3, k4, k5, k6, k7⟩, ⟨s0, s1, s2, s3, s4, s5⟩, m1, m2, m3⟩ := id hRel
  obtain ⟨Rt, lnt, sgt, hAt, hRelt⟩ := id hF2
  refine g_aload_0 dX7_needleBy_8 ?_
  refine g_get dX7_needleBy_9 (fX7_16 rfl) ho rfl ?_
  refine g_get dX7_needleBy_12 (fX7_124 rfl) hAt.1 rfl ?_
  rw [hRelt.2.2.2.2.1.1]
  exact g_ireturn rfl rfl dX7_needleBy_15 (Nat.le_of_ble_eq_true rfl) (Nat.le_of_ble_eq_true rfl) ⟨rfl, hC2, hX2⟩
theorem c_yarnBy (hC : CInv M a lo z f n h sv len g) (ft' : Row) (he : Eq9 f ft') (hIt : Rng ft') (hg : CharsOK g) (hl : len ≤ 120) (hM : MotOK ft') (ht : TxOK g len) (hc : c < 5) : Runs mX7_yarnBy [.ref a, .int (nI c)] M z (CQ (some (.int (f_drawn (prun (TT ft' g) (LL' ft' len) 4001 ft' [(4, 0, 0, 0)] 0 0).1 c - f_drawn f c))) M a lo f n h sv len g z) := by
  obtain ⟨ho, hF, ⟨ft, hFt⟩, hH, hS, ⟨sc, pl, gr, ti, lv, od, bk, hP⟩, ⟨O, Rq, rc, Cq, hAr⟩, l1, l2⟩ := id hC
  obtain ⟨R, ln, sg, hA, hRel⟩ := id hF
  obtain ⟨r0, r1, r2, ⟨k3, k4, k5, k6, k7⟩, ⟨s0, s1, s2, s3, s4, s5⟩, m1, m2, m3⟩ := id hRel
  refine runs_of plX7 rfl (Nat.le_of_ble_eq_true rfl) ?_
  show WP mX7_yarnBy 0 [some (.ref a), some (.int (nI c))] [] M z 0 0 _
  refine g_iload_1 dX7_yarnBy_0 ?_
  refine g_s1_0r dX7_yarnBy_1 (sX7_110 rfl) rfl (Nat.le_of_ble_eq_true rfl) (Nat.le_of_ble_eq_true rfl) (Nat.le_of_ble_eq_true rfl) (c_needColour_ok hc) ?_
  refine g_aload_0 dX7_yarnBy_4 ?_
  refine g_v0_0r dX7_yarnBy_5 (vX7_259 rfl) rfl ho (Nat.le_of_ble_eq_true rfl) (Nat.le_of_ble_eq_true rfl) (Nat.le_of_ble_eq_true rfl) (c_needTxt_ok hC hg hl ht) ?_
  refine g_aload_0 dX7_yarnBy_8 ?_
  refine g_v0 dX7_yarnBy_9 (vX7_294 rfl) rfl ho (Nat.le_of_ble_eq_true rfl) (Nat.le_of_ble_eq_true rfl) (Nat.le_of_ble_eq_true rfl) (c_tryText hC ft' he hIt hg hl hM ht) (fun r M2 z2 hq => ?_) (fun E M2 z2 hq => by obtain ⟨hq, -⟩ := hq; cases hq)
  obtain ⟨hr, hF2, hC2, hX2⟩ := hq
  cases hr
  obtain ⟨ho, hF, ⟨ft, hFt⟩, hH, hS, ⟨sc, pl, gr, ti, lv, od, bk, hP⟩, ⟨O, Rq, rc, Cq, hAr⟩, l1, l2⟩ := id hC2
  obtain ⟨R, ln, sg, hA, hRel⟩ := id hF
  obtain ⟨r0, r1, r2, ⟨k3, k4, k5, k6, k7⟩, ⟨s0, s1, s2, s3, s4, s5⟩, m1, m2, m3⟩ := id hRel
  obtain ⟨Rt, lnt, sgt, hAt, hRelt⟩ := id hF2
  refine g_aload_0 dX7_yarnBy_12 ?_
  refine g_get dX7_yarnBy_13 (fX7_16 rfl) ho rfl ?_
  refine g_get dX7_yarnBy_16 (fX7_147 rfl) hAt.1 rfl ?_
  refine g_iload_1 dX7_yarnBy_19 ?_
  refine g_v1_1 dX7_yarnBy_20 (vX7_156 rfl) rfl hAt.2.2.1.1 (Nat.le_of_ble_eq_true rfl) ⟨rfl, rfl⟩ (Nat.le_of_ble_eq_true rfl) (Nat.le_of_ble_eq_true rfl) (c_drawn hAt.2.2.1 hc) ?_
  rw [hRelt.2.2.2.1.2.1 c hc, hRelt.2.2.2.1.1 c hc]
  refine g_aload_0 dX7_yarnBy_23 ?_
  refine g_get dX7_yarnBy_24 (fX7_12 rfl) ho rfl ?_
  refine g_get dX7_yarnBy_27 (fX7_147 rfl) hA.1 rfl ?_
  refine g_iload_1 dX7_yarnBy_30 ?_
  refine g_v1_1 dX7_yarnBy_31 (vX7_156 rfl) rfl hA.2.2.1.1 (Nat.le_of_ble_eq_true rfl) ⟨rfl, rfl⟩ (Nat.le_of_ble_eq_true rfl) (Nat.le_of_ble_eq_true rfl) (c_drawn hA.2.2.1 hc) ?_
  rw [k4 c hc, k3 c hc]
  refine g_isub dX7_yarnBy_34 ?_
  exact g_ireturn rfl rfl dX7_yarnBy_35 (Nat.le_of_ble_eq_true rfl) (Nat.le_of_ble_eq_true rfl) ⟨rfl, hC2, hX2⟩
theorem c_loopsBy_x1 (hC : CInv M a lo z f n h sv len g) (hI : Rng f) (hg : CharsOK g) (hl : len ≤ 120) (ht : ¬ TxOK g len) : Runs mX7_loopsBy [.ref a] M z (gE ISE M z) := by
  obtain ⟨ho, hF, ⟨ft, hFt⟩, hH, hS, ⟨sc, pl, gr, ti, lv, od, bk, hP⟩, ⟨O, Rq, rc, Cq, hAr⟩, l1, l2⟩ := id hC
  obtain ⟨R, ln, sg, hA, hRel⟩ := id hF
  obtain ⟨r0, r1, r2, ⟨k3, k4, k5, k6, k7⟩, ⟨s0, s1, s2, s3, s4, s5⟩, m1, m2, m3⟩ := id hRel
  refine runs_of plX7 rfl (Nat.le_of_ble_eq_true rfl) ?_
  show WP mX7_loopsBy 0 [some (.ref a)] [] M z 0 0 _
  refine g_aload_0 dX7_loopsBy_0 ?_
  refine g_v0_x dX7_loopsBy_1 (vX7_259 rfl) rfl ho (Nat.le_of_ble_eq_true rfl) (Nat.le_of_ble_eq_true rfl) (Nat.le_of_ble_eq_true rfl) (c_needTxt_x hC hg hl ht) (fun z2 hz2 => ?_)
  exact x_out rfl (Nat.le_of_ble_eq_true rfl) (Nat.le_of_ble_eq_true rfl) ⟨rfl, rfl, hz2⟩
theorem c_needleBy_x1 (hC : CInv M a lo z f n h sv len g) (hI : Rng f) (hg : CharsOK g) (hl : len ≤ 120) (ht : ¬ TxOK g len) : Runs mX7_needleBy [.ref a] M z (gE ISE M z) := by
  obtain ⟨ho, hF, ⟨ft, hFt⟩, hH, hS, ⟨sc, pl, gr, ti, lv, od, bk, hP⟩, ⟨O, Rq, rc, Cq, hAr⟩, l1, l2⟩ := id hC
  obtain ⟨R, ln, sg, hA, hRel⟩ := id hF
  obtain ⟨r0, r1, r2, ⟨k3, k4, k5, k6, k7⟩, ⟨s0, s1, s2, s3, s4, s5⟩, m1, m2, m3⟩ := id hRel
  refine runs_of plX7 rfl (Nat.le_of_ble_eq_true rfl) ?_
  show WP mX7_needleBy 0 [some (.ref a)] [] M z 0 0 _
  refine g_aload_0 dX7_needleBy_0 ?_
  refine g_v0_x dX7_needleBy_1 (vX7_259 rfl) rfl ho (Nat.le_of_ble_eq_true rfl) (Nat.le_of_ble_eq_true rfl) (Nat.le_of_ble_eq_true rfl) (c_needTxt_x hC hg hl ht) (fun z2 hz2 => ?_)
  exact x_out rfl (Nat.le_of_ble_eq_true rfl) (Nat.le_of_ble_eq_true rfl) ⟨rfl, rfl, hz2⟩
theorem c_yarnBy_x2 (hC : CInv M a lo z f n h sv len g) (hI : Rng f) (hc : c < 5) (hg : CharsOK g) (hl : len ≤ 120) (ht : ¬ TxOK g len) : Runs mX7_yarnBy [.ref a, .int (nI c)] M z (gE ISE M z) := by
  obtain ⟨ho, hF, ⟨ft, hFt⟩, hH, hS, ⟨sc, pl, gr, ti, lv, od, bk, hP⟩, ⟨O, Rq, rc, Cq, hAr⟩, l1, l2⟩ := id hC
  obtain ⟨R, ln, sg, hA, hRel⟩ := id hF
  obtain ⟨r0, r1, r2, ⟨k3, k4, k5, k6, k7⟩, ⟨s0, s1, s2, s3, s4, s5⟩, m1, m2, m3⟩ := id hRel
  refine runs_of plX7 rfl (Nat.le_of_ble_eq_true rfl) ?_
  show WP mX7_yarnBy 0 [some (.ref a), some (.int (nI c))] [] M z 0 0 _
  refine g_iload_1 dX7_yarnBy_0 ?_
  refine g_s1_0r dX7_yarnBy_1 (sX7_110 rfl) rfl (Nat.le_of_ble_eq_true rfl) (Nat.le_of_ble_eq_true rfl) (Nat.le_of_ble_eq_true rfl) (c_needColour_ok hc) ?_
  refine g_aload_0 dX7_yarnBy_4 ?_
  refine g_v0_x dX7_yarnBy_5 (vX7_259 rfl) rfl ho (Nat.le_of_ble_eq_true rfl) (Nat.le_of_ble_eq_true rfl) (Nat.le_of_ble_eq_true rfl) (c_needTxt_x hC hg hl ht) (fun z2 hz2 => ?_)
  exact x_out rfl (Nat.le_of_ble_eq_true rfl) (Nat.le_of_ble_eq_true rfl) ⟨rfl, rfl, hz2⟩
theorem i2c_num : ∀ i, i < 256 → ((nI i).toUInt32 % 65536).toInt32 = nI i := by decide +kernel
theorem c_append (hC : CInv M a lo z f n h sv len g) (hi : i < 256) (hl : len < 120) : Runs mX7_append [.ref a, .int (nI i)] M z (CQ (some (.int (nI (len + 1)))) M a lo f n h sv (len + 1) (fun k => if k = len then i else g k) z) := by
  obtain ⟨ho, hF, ⟨ft, hFt⟩, hH, hS, ⟨sc, pl, gr, ti, lv, od, bk, hP⟩, ⟨O, Rq, rc, Cq, hAr⟩, l1, l2⟩ := id hC
  obtain ⟨R, ln, sg, hA, hRel⟩ := id hF
  obtain ⟨r0, r1, r2, ⟨k3, k4, k5, k6, k7⟩, ⟨s0, s1, s2, s3, s4, s5⟩, m1, m2, m3⟩ := id hRel
  refine runs_of plX7 rfl (Nat.le_of_ble_eq_true rfl) ?_
  show WP mX7_append 0 [some (.ref a), some (.int (nI i))] [] M z 0 0 _
  refine g_iload_1 dX7_append_0 ?_
  refine g_iconst (v := nI 0) dX7_append_1 rfl ?_
  refine g_sipush (v := nI 255) dX7_append_2 rfl ?_
  refine g_s3_0r dX7_append_5 (sX7_51 rfl) rfl (Nat.le_of_ble_eq_true rfl) (Nat.le_of_ble_eq_true rfl) (Nat.le_of_ble_eq_true rfl) (c_needRange_ok (nI_nlt (by omega) (by omega)) (nI_le (by omega) (by decide))) ?_
  refine g_aload_0 dX7_append_8 ?_
  refine g_get dX7_append_9 (fX7_33 rfl) ho rfl ?_
  refine g_get dX7_append_12 (fX7_55 rfl) hS.1 rfl ?_
  refine g_bipush (v := nI 120) dX7_append_15 rfl ?_
  refine g_icmp_ltN (tgt := 30) dX7_append_17 (by decide) (by omega) (by omega) (fun _ => ?_) (fun h17 => absurd hl (by omega))
  refine g_aload_0 dX7_append_30 ?_
  refine g_get dX7_append_31 (fX7_33 rfl) ho rfl ?_
  refine g_iload_1 dX7_append_34 ?_
  refine g_i2c (v := nI i) dX7_append_35 (i2c_num i hi) ?_
  refine g_v1 dX7_append_36 (vX7_66 rfl) rfl hS.1 (Nat.le_of_ble_eq_true rfl) (Nat.le_of_ble_eq_true rfl) (Nat.le_of_ble_eq_true rfl) (c_add hS hl hi) (fun r M2 z2 hq => ?_) (fun E M2 z2 hq => by obtain ⟨hq, -⟩ := hq; cases hq)
  obtain ⟨hr, hS3, hO3, hz3⟩ := hq
  cases hr
  have hX3 := CFr.of2 (a := a) (lo := lo) hO3 (by omega) (by omega) hz3
  subst hz3
  have ho := (hO3 a (by omega)).trans ho
  refine g_aload_0 dX7_append_39 ?_
  refine g_get dX7_append_40 (fX7_33 rfl) ho rfl ?_
  refine g_get dX7_append_43 (fX7_55 rfl) hS3.1 rfl ?_
  exact g_ireturn rfl rfl dX7_append_46 (Nat.le_of_ble_eq_true rfl) (Nat.le_of_ble_eq_true rfl) ⟨rfl, hC.txt hO3 hS3, hX3⟩
theorem c_append_x1 (hC : CInv M a lo z f n h sv len g) (hI : Rng f) (hx : x < nI 0 ∨ nI 255 < x) : Runs mX7_append [.ref a, .int x] M z (gE IAE M z) := by
  obtain ⟨ho, hF, ⟨ft, hFt⟩, hH, hS, ⟨sc, pl, gr, ti, lv, od, bk, hP⟩, ⟨O, Rq, rc, Cq, hAr⟩, l1, l2⟩ := id hC
  obtain ⟨R, ln, sg, hA, hRel⟩ := id hF
  obtain ⟨r0, r1, r2, ⟨k3, k4, k5, k6, k7⟩, ⟨s0, s1, s2, s3, s4, s5⟩, m1, m2, m3⟩ := id hRel
  refine runs_of plX7 rfl (Nat.le_of_ble_eq_true rfl) ?_
  show WP mX7_append 0 [some (.ref a), some (.int x)] [] M z 0 0 _
  refine g_iload_1 dX7_append_0 ?_
  refine g_iconst (v := nI 0) dX7_append_1 rfl ?_
  refine g_sipush (v := nI 255) dX7_append_2 rfl ?_
  refine g_s3_x dX7_append_5 (sX7_51 rfl) rfl (Nat.le_of_ble_eq_true rfl) (Nat.le_of_ble_eq_true rfl) (Nat.le_of_ble_eq_true rfl) (c_needRange_x hx) (fun z2 hz2 => ?_)
  exact x_out rfl (Nat.le_of_ble_eq_true rfl) (Nat.le_of_ble_eq_true rfl) ⟨rfl, rfl, hz2⟩
theorem c_append_x2 (hC : CInv M a lo z f n h sv len g) (hI : Rng f) (hi : i < 256) (hl : len = 120) : Runs mX7_append [.ref a, .int (nI i)] M z (gE ISE M z) := by
  obtain ⟨ho, hF, ⟨ft, hFt⟩, hH, hS, ⟨sc, pl, gr, ti, lv, od, bk, hP⟩, ⟨O, Rq, rc, Cq, hAr⟩, l1, l2⟩ := id hC
  obtain ⟨R, ln, sg, hA, hRel⟩ := id hF
  obtain ⟨r0, r1, r2, ⟨k3, k4, k5, k6, k7⟩, ⟨s0, s1, s2, s3, s4, s5⟩, m1, m2, m3⟩ := id hRel
  refine runs_of plX7 rfl (Nat.le_of_ble_eq_true rfl) ?_
  show WP mX7_append 0 [some (.ref a), some (.int (nI i))] [] M z 0 0 _
  refine g_iload_1 dX7_append_0 ?_
  refine g_iconst (v := nI 0) dX7_append_1 rfl ?_
  refine g_sipush (v := nI 255) dX7_append_2 rfl ?_
  refine g_s3_0r dX7_append_5 (sX7_51 rfl) rfl (Nat.le_of_ble_eq_true rfl) (Nat.le_of_ble_eq_true rfl) (Nat.le_of_ble_eq_true rfl) (c_needRange_ok (nI_nlt (by omega) (by omega)) (nI_le (by omega) (by decide))) ?_
  refine g_aload_0 dX7_append_8 ?_
  refine g_get dX7_append_9 (fX7_33 rfl) ho rfl ?_
  refine g_get dX7_append_12 (fX7_55 rfl) hS.1 rfl ?_
  refine g_bipush (v := nI 120) dX7_append_15 rfl ?_
  refine g_icmp_ltN (tgt := 30) dX7_append_17 (by decide) (by omega) (by omega) (fun h17 => absurd h17 (by omega)) (fun _ => ?_)
  exact g_throw (tX7_61 rfl) rfl dX7_append_20 dX7_append_23 (Or.inl ⟨dX7_append_24, dX7_append_26, dX7_append_29⟩) (Nat.le_of_ble_eq_true rfl) (Nat.le_of_ble_eq_true rfl) (Nat.le_of_ble_eq_true rfl) (Nat.le_of_ble_eq_true rfl) (fun z2 hz2 => ⟨rfl, rfl, hz2⟩)
theorem c_clearText (hC : CInv M a lo z f n h sv len g) : Runs mX7_clearText [.ref a] M z (CQ (some (.int (nI len))) M a lo f n h sv 0 g z) := by
  obtain ⟨ho, hF, ⟨ft, hFt⟩, hH, hS, ⟨sc, pl, gr, ti, lv, od, bk, hP⟩, ⟨O, Rq, rc, Cq, hAr⟩, l1, l2⟩ := id hC
  obtain ⟨R, ln, sg, hA, hRel⟩ := id hF
  obtain ⟨r0, r1, r2, ⟨k3, k4, k5, k6, k7⟩, ⟨s0, s1, s2, s3, s4, s5⟩, m1, m2, m3⟩ := id hRel
  refine runs_of plX7 rfl (Nat.le_of_ble_eq_true rfl) ?_
  show WP mX7_clearText 0 [some (.ref a), none] [] M z 0 0 _
  refine g_aload_0 dX7_clearText_0 ?_
  refine g_get dX7_clearText_1 (fX7_33 rfl) ho rfl ?_
  refine g_get dX7_clearText_4 (fX7_55 rfl) hS.1 rfl ?_
  refine g_istore_1 rfl dX7_clearText_7 ?_
  refine g_aload_0 dX7_clearText_8 ?_
  refine g_get dX7_clearText_9 (fX7_33 rfl) ho rfl ?_
  refine g_iconst (v := nI 0) dX7_clearText_12 rfl ?_
  refine g_putQ dX7_clearText_13 (fX7_55 rfl) hS.1 rfl rfl (Nat.le_of_ble_eq_true rfl) (fun M1 h0 n1 => ?_)
  refine g_iload_1 dX7_clearText_16 ?_
  exact g_ireturn rfl rfl dX7_clearText_17 (Nat.le_of_ble_eq_true rfl) (Nat.le_of_ble_eq_true rfl) ⟨rfl, hC.txt (fun q hq => n1 q (by omega)) ⟨h0, (n1 _ (by omega)).trans hS.2⟩, CFr.of (p := a + 44) (m := 2) (fun q hq => n1 q (by omega)) (by omega) (by omega)⟩
theorem Conn.cong {S S' : Nat → Bool} {p q : Nat} (h : ∀ k, k < 144 → S k = S' k) (hc : Conn S p q) : Conn S' p q := fun P h0 hs => hc P h0 (fun x y hh hx h4 hp hb s1 s2 => hs x y hh hx h4 hp hb (by rw [← h x hx]; exact s1) (by rw [← h y (besd_lt hx hb)]; exact s2))
theorem nArea_congr {S S' : Nat → Bool} (h : ∀ k, k < 144 → S k = S' k) : nArea S = nArea S' := cnt_congr (fun k hk => by
  have h' : ∀ k, k < 144 → S' k = S k := fun k hk => (h k hk).symm
  unfold lsB
  refine decide_eq_decide.mpr ⟨fun ⟨h1, h2⟩ => ⟨by rw [← h k hk]; exact h1, fun d hd hc => h2 d hd (hc.cong h')⟩, fun ⟨h1, h2⟩ => ⟨by rw [h k hk]; exact h1, fun d hd hc => h2 d hd (hc.cong h)⟩⟩)
theorem ar_eq {R : Nat → Row} {ln : Nat → Nat} {sg : Nat → Nat → Nat} (hr : Rel R ln sg f) : nArea (clS (R 0) c) = nArea (plS f c) := nArea_congr (fun k hk => by
  unfold clS plS
  rw [hr.1 k hk]
  exact decide_eq_decide.mpr sub1_eq)
theorem c_areasBySpreading (hC : CInv M a lo z f n h sv len g) (hI : Rng f) (hc : c < 5) : Runs mX7_areasBySpreading [.ref a, .int (nI c)] M z (CQ (some (.int (nI (nArea (plS f c))))) M a lo f n h sv len g z) := by
  obtain ⟨ho, hF, ⟨ft, hFt⟩, hH, hS, ⟨sc, pl, gr, ti, lv, od, bk, hP⟩, ⟨O, Rq, rc, Cq, hAr⟩, l1, l2⟩ := id hC
  obtain ⟨R, ln, sg, hA, hRel⟩ := id hF
  obtain ⟨r0, r1, r2, ⟨k3, k4, k5, k6, k7⟩, ⟨s0, s1, s2, s3, s4, s5⟩, m1, m2, m3⟩ := id hRel
  refine runs_of plX7 rfl (Nat.le_of_ble_eq_true rfl) ?_
  show WP mX7_areasBySpreading 0 [some (.ref a), some (.int (nI c))] [] M z 0 0 _
  refine g_iload_1 dX7_areasBySpreading_0 ?_
  refine g_s1_0r dX7_areasBySpreading_1 (sX7_110 rfl) rfl (Nat.le_of_ble_eq_true rfl) (Nat.le_of_ble_eq_true rfl) (Nat.le_of_ble_eq_true rfl) (c_needColour_ok hc) ?_
  refine g_aload_0 dX7_areasBySpreading_4 ?_
  refine g_get dX7_areasBySpreading_5 (fX7_47 rfl) ho rfl ?_
  refine g_aload_0 dX7_areasBySpreading_8 ?_
  refine g_get dX7_areasBySpreading_9 (fX7_12 rfl) ho rfl ?_
  refine g_get dX7_areasBySpreading_12 (fX7_78 rfl) hA.1 rfl ?_
  refine g_iload_1 dX7_areasBySpreading_15 ?_
  refine g_v2 dX7_areasBySpreading_16 (vX7_113 rfl) rfl hAr.1 (Nat.le_of_ble_eq_true rfl) (Nat.le_of_ble_eq_true rfl) (Nat.le_of_ble_eq_true rfl) (q_countSpreading (c := c) hA.2.1 (by omega) hAr) (fun r M2 z2 hq => ?_) (fun E M2 z2 hq => by obtain ⟨hq, -⟩ := hq; cases hq)
  obtain ⟨hr, hA3, hO3, hz3⟩ := hq
  cases hr
  have hX3 := CFr.of2 (a := a) (lo := lo) hO3 (by omega) (by omega) hz3
  subst hz3
  exact g_ireturn rfl rfl dX7_areasBySpreading_19 (Nat.le_of_ble_eq_true rfl) (Nat.le_of_ble_eq_true rfl) ⟨by rw [ar_eq hRel], hC.ars hO3 hA3, hX3⟩
theorem c_areasByJoining (hC : CInv M a lo z f n h sv len g) (hI : Rng f) (hc : c < 5) : Runs mX7_areasByJoining [.ref a, .int (nI c)] M z (CQ (some (.int (nI (nArea (plS f c))))) M a lo f n h sv len g z) := by
  obtain ⟨ho, hF, ⟨ft, hFt⟩, hH, hS, ⟨sc, pl, gr, ti, lv, od, bk, hP⟩, ⟨O, Rq, rc, Cq, hAr⟩, l1, l2⟩ := id hC
  obtain ⟨R, ln, sg, hA, hRel⟩ := id hF
  obtain ⟨r0, r1, r2, ⟨k3, k4, k5, k6, k7⟩, ⟨s0, s1, s2, s3, s4, s5⟩, m1, m2, m3⟩ := id hRel
  refine runs_of plX7 rfl (Nat.le_of_ble_eq_true rfl) ?_
  show WP mX7_areasByJoining 0 [some (.ref a), some (.int (nI c))] [] M z 0 0 _
  refine g_iload_1 dX7_areasByJoining_0 ?_
  refine g_s1_0r dX7_areasByJoining_1 (sX7_110 rfl) rfl (Nat.le_of_ble_eq_true rfl) (Nat.le_of_ble_eq_true rfl) (Nat.le_of_ble_eq_true rfl) (c_needColour_ok hc) ?_
  refine g_aload_0 dX7_areasByJoining_4 ?_
  refine g_get dX7_areasByJoining_5 (fX7_47 rfl) ho rfl ?_
  refine g_aload_0 dX7_areasByJoining_8 ?_
  refine g_get dX7_areasByJoining_9 (fX7_12 rfl) ho rfl ?_
  refine g_get dX7_areasByJoining_12 (fX7_78 rfl) hA.1 rfl ?_
  refine g_iload_1 dX7_areasByJoining_15 ?_
  refine g_v2 dX7_areasByJoining_16 (vX7_117 rfl) rfl hAr.1 (Nat.le_of_ble_eq_true rfl) (Nat.le_of_ble_eq_true rfl) (Nat.le_of_ble_eq_true rfl) (q_countJoining (c := c) hA.2.1 (by omega) hAr) (fun r M2 z2 hq => ?_) (fun E M2 z2 hq => by obtain ⟨hq, -⟩ := hq; cases hq)
  obtain ⟨hr, hA3, hO3, hz3⟩ := hq
  cases hr
  have hX3 := CFr.of2 (a := a) (lo := lo) hO3 (by omega) (by omega) hz3
  subst hz3
  exact g_ireturn rfl rfl dX7_areasByJoining_19 (Nat.le_of_ble_eq_true rfl) (Nat.le_of_ble_eq_true rfl) ⟨by rw [ar_eq hRel], hC.ars hO3 hA3, hX3⟩
end P68
