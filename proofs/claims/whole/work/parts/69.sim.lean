section P69
variable {M M0 : Hp} {z lo a n len j c d e i s m r k q : Nat} {f ft t : Row} {h : Nat → Row} {sv : Nat → Option Row} {g : Nat → Nat} {x y w0 w1 w2 : Int32} {Φ : GR → Hp → Nat → Prop} {T : Nat → Nat → Nat} {Ln : Nat → Nat} {xl : Int64}
theorem oDo_cons (hC : Cons f) (hI : Rng f) (h99 : c = 99 → d < 5) : Cons (oDo Ln f c d e).1 := by
  unfold oDo
  by_cases h1 : c = 115
  · rw [if_pos h1]; exact Cons.sew _ hC hI
  rw [if_neg h1]
  by_cases h2 : c = 106
  · rw [if_pos h2]; exact Cons.jump _ hC hI
  rw [if_neg h2]
  by_cases h3 : c = 108
  · rw [if_pos h3]; exact hC.turn
  rw [if_neg h3]
  by_cases h4 : c = 114
  · rw [if_pos h4]; exact hC.turn
  rw [if_neg h4]
  by_cases h5 : c = 99
  · rw [if_pos h5]
    split
    · exact hC.thread hI (h99 h5)
    · exact hC
  rw [if_neg h5]
  by_cases h6 : c = 104
  · rw [if_pos h6]; exact hC.free (by omega)
  rw [if_neg h6]
  by_cases h7 : c = 120
  · rw [if_pos h7]
    split
    · next q => exact hC.cut hI q
    · exact hC
  rw [if_neg h7]
  by_cases h8 : c = 101
  · rw [if_pos h8]
    split
    · next q => exact hC.ease hI q
    · exact hC
  rw [if_neg h8]
  by_cases h9 : c = 109
  · rw [if_pos h9]; exact hC
  rw [if_neg h9]
  exact hC
def Keeps (f f' : Row) : Prop := Rng f' ∧ (∀ k, 463 ≤ k → f' k = f k) ∧ (Cons f → Cons f')
theorem prun_ok (hT : TxtsOK T Ln) : ∀ w {lv : List Lv} {n br : Nat} {f : Row}, LvsOK T Ln lv → Rng f → Keeps f (prun T Ln w f lv n br).1
  | 0, lv, n, br, f, _, hI => ⟨hI, fun _ _ => rfl, fun h => h⟩
  | w + 1, [], n, br, f, _, hI => ⟨hI, fun _ _ => rfl, fun h => h⟩
  | w + 1, (s, p, gr, ti) :: rest, n, br, f, hL, hI => by
    have hL' := hL
    obtain ⟨⟨a1, a2, a3, a4, a5⟩, a6, a7⟩ := hL'
    simp only at a1 a2 a3 a4 a5 a6
    obtain ⟨t1, t2, t3, t4⟩ := hT s a1
    unfold prun
    by_cases hn4 : 400 ≤ n
    · rw [if_pos hn4]; exact ⟨hI, fun _ _ => rfl, fun h => h⟩
    rw [if_neg hn4]
    by_cases hp : Ln s ≤ p
    · rw [if_pos hp]; exact prun_ok hT w a7 hI
    rw [if_neg hp]
    by_cases h41 : T s p = 41
    · rw [if_pos h41]
      exact prun_ok hT w (lv_end hT hL (by omega) h41).2.2.1 hI
    · rw [if_neg h41]
      have h99 : T s p = 99 → T s (p + 1) - 48 < 5 := fun e => by
        rcases pfa_ord (by omega) t1 a4 h41 with ⟨c, v⟩ | ⟨c, v⟩ | ⟨c, v⟩ | ⟨c, v⟩ | ⟨c, v⟩ | ⟨c, v⟩ <;> omega
      have hd := oDo_ok (Ln := Ln) (c := T s p) (d := T s (p + 1) - 48) (e := T s (p + 2) - 48) hI h99 (fun e => by
        rcases pfa_ord (by omega) t1 a4 h41 with ⟨c, v⟩ | ⟨c, v⟩ | ⟨c, v⟩ | ⟨c, v⟩ | ⟨c, v⟩ | ⟨c, v⟩ <;> omega)
      obtain ⟨k1, k2, k3⟩ := prun_ok hT w (n := n + 1) (br := br + (oDo Ln f (T s p) (T s (p + 1) - 48) (T s (p + 2) - 48)).2) (lv_ord hT hL (by omega) h41).1 hd.1
      exact ⟨k1, fun k hk => (k2 k hk).trans (hd.2.1 k hk), fun hc => k3 (oDo_cons hc hI h99)⟩
theorem lv_one (hT : TxtsOK T Ln) (hs : s < 5) : LvsOK T Ln [(s, 0, 0, 0)] := by
  obtain ⟨t1, t2, t3, t4⟩ := hT s hs
  exact ⟨⟨hs, by show (0 : Nat) < 10; omega, Nat.zero_le _, t3, fun q => absurd q (Nat.lt_irrefl 0)⟩, by show s + 0 < 5; omega, trivial⟩
theorem run_ok (hT : TxtsOK T Ln) (hs : s < 5) (hI : Rng f) : Keeps f (prun T Ln 4001 f [(s, 0, 0, 0)] 0 0).1 := prun_ok hT 4001 (lv_one hT hs) hI
theorem Keeps.rf (hI : Rng f) : Keeps f f := ⟨hI, fun _ _ => rfl, fun h => h⟩
theorem sew_ok (w : Nat) (hI : Rng f) : Keeps f (f_sew w f).1 := ⟨Rng.sew w hI, fun _ hk => sew_ne hk w hI, fun h => Cons.sew w h hI⟩
theorem jump_ok (w : Nat) (hI : Rng f) : Keeps f (f_jump w f).1 := ⟨Rng.jump w hI, fun _ hk => jump_ne hk w hI, fun h => Cons.jump w h hI⟩
theorem turn_ok (w : Nat) (hI : Rng f) : Keeps f (f_turn f w) := ⟨hI.turn w, fun _ hk => turn_ne hk, fun h => h.turn⟩
theorem thread_ok (hc : c < 5) (hI : Rng f) : Keeps f (f_thread f c) := ⟨hI.thread hc, fun _ hk => thread_ne hI hc hk, fun h => h.thread hI hc⟩
theorem cut_ok (ht : 0 < tno f) (hI : Rng f) : Keeps f (f_cut f) := ⟨hI.cut ht, fun _ hk => cut_ne hI ht hk, fun h => h.cut hI ht⟩
theorem ease_ok (ht : 0 < tno f) (hI : Rng f) : Keeps f (f_ease f) := ⟨hI.ease ht, fun _ hk => ease_ne hI ht hk, fun h => h.ease hI ht⟩
theorem high_ok (h1 : 1 ≤ m) (h2 : m ≤ 9) (hI : Rng f) : Keeps f (upd f 460 (nI m)) := ⟨hI.s460 (by omega) (by omega), fun _ hk => upd_ne (by omega), fun h => h.free (by omega)⟩
theorem unpick_ok (hj : j < 144) (hl : hasL (f (144 + j)) = true) (hI : Rng f) : Keeps f (f_unpick f j) := ⟨hI.unpick hj hl, fun k hk => by
  have := hI.lp5 hj hl
  unfold f_unpick
  rw [upd_ne (by omega), upd_ne (by omega)], fun h => h.unpick hI hj hl⟩
theorem shear_ne {s : Nat} (hs : s < 10) (h0 : 0 < s) (hk : 463 ≤ k) : ∀ j, j ≤ 144 → ∀ {f : Row}, Rng f → (f_shear (nI s) j f).1 k = f k
  | 0, _, _, _ => rfl
  | j + 1, hj, f, hI => by
    have ih := shear_ne hs h0 hk j (by omega) hI
    have b := Rng.shear hs h0 j (by omega) hI
    unfold f_shear
    simp only []
    split
    · next q =>
      have q' : hasL ((f_shear (nI s) j f).1 (144 + j)) = true := by
        unfold f_shearC at q
        simp only [Bool.and_eq_true] at q
        exact q.1
      have := b.lp5 (by omega) q'
      show f_shear1 (f_shear (nI s) j f).1 j (nI s) k = f k
      unfold f_shear1
      rw [upd_ne (by omega), upd_ne (by omega)]
      exact ih
    · exact ih
theorem shear_ok (h1 : 1 ≤ m) (h2 : m ≤ 9) (hI : Rng f) : Keeps f (f_shear (nI m) 144 f).1 := ⟨Rng.shear (by omega) (by omega) 144 (Nat.le_refl _) hI, fun _ hk => shear_ne (by omega) (by omega) hk 144 (Nat.le_refl _) hI, fun h => Cons.shear (by omega) (by omega) 144 (Nat.le_refl _) h hI⟩
theorem mend_ok (hj : j < 144) (h0 : f_noMend f j = 0) (hI : Rng f) : Keeps f (f_mend f j) := ⟨hI.mend hj (noM_m h0).1, fun k hk => by
  obtain ⟨p1, p2, p3⟩ := hI.plan hj (noM_m h0).1
  unfold f_mend
  rw [upd_ne (by omega), upd_ne (by omega), draw_ne (by omega) (by omega) (by omega)], fun h => h.mend hI hj (noM_m h0).1 (noM_m h0).2⟩
theorem sim_ok (hT : TxtsOK T Ln) (hI : Rng f) : Keeps f (f_sim T Ln f q k) := by
  unfold f_sim
  by_cases h1 : k < 14
  · rw [if_pos h1]; exact sew_ok _ hI
  rw [if_neg h1]
  by_cases h2 : k < 17
  · rw [if_pos h2]; exact jump_ok _ hI
  rw [if_neg h2]
  by_cases h3 : k < 20
  · rw [if_pos h3]; exact turn_ok _ hI
  rw [if_neg h3]
  by_cases h4 : k < 23
  · rw [if_pos h4]; exact turn_ok _ hI
  rw [if_neg h4]
  by_cases h5 : k < 26
  · rw [if_pos h5]
    split
    · exact Keeps.rf hI
    · exact thread_ok (by omega) hI
  rw [if_neg h5]
  by_cases h6 : k = 26
  · rw [if_pos h6]
    split
    · next q => exact cut_ok q.1 hI
    · exact Keeps.rf hI
  rw [if_neg h6]
  by_cases h7 : k = 27
  · rw [if_pos h7]
    split
    · next q => exact ease_ok q hI
    · exact Keeps.rf hI
  rw [if_neg h7]
  by_cases h8 : k = 28
  · rw [if_pos h8]; exact high_ok (by omega) (by omega) hI
  rw [if_neg h8]
  by_cases h9 : k = 29
  · rw [if_pos h9]
    split
    · next q => exact unpick_ok (by omega) q hI
    · exact Keeps.rf hI
  rw [if_neg h9]
  by_cases h10 : k = 30
  · rw [if_pos h10]
    split
    · exact shear_ok (by omega) (by omega) hI
    · exact Keeps.rf hI
  rw [if_neg h10]
  split
  · exact Keeps.rf hI
  · exact run_ok hT (by omega) hI
theorem q_sim_sew (hC : CInv M a lo z f n h sv len g) (hFt0 : RugF M (a + 21) ft) (hIt : Rng ft) (hq : q < 2 ^ 27) (hk : k < 32) (h9 : k < 14) : WP mX7_simulateTurn 10 [some (.ref a), some (.int (nI r)), some (.int (nI q)), some (.int (nI k))] [] M z 0 0 (TrQ none M a lo ((f_sew (1 + q % 12) ft).1) f n h sv len g z) := by
  obtain ⟨ho, hF, -, hH, hS, ⟨sc, pl, gr, ti, lv, od, bk, hP⟩, ⟨O, Rq, rc, Cq, hAr⟩, l1, l2⟩ := id hC
  obtain ⟨Rt, lnt, sgt, hAt, hRelt⟩ := id hFt0
  refine g_iload_3 dX7_simulateTurn_10 ?_
  refine g_bipush (v := nI 13) dX7_simulateTurn_11 rfl ?_
  refine g_icmp_gtN (tgt := 33) dX7_simulateTurn_13 (by decide) (by omega) (by omega) (fun h13 => absurd h13 (by omega)) (fun _ => ?_)
  refine g_aload_0 dX7_simulateTurn_16 ?_
  refine g_get dX7_simulateTurn_17 (fX7_16 rfl) ho rfl ?_
  refine g_iconst (v := nI 1) dX7_simulateTurn_20 rfl ?_
  refine g_iload_2 dX7_simulateTurn_21 ?_
  refine g_bipush (v := nI 12) dX7_simulateTurn_22 rfl ?_
  refine g_iremN dX7_simulateTurn_24 (by omega) (by omega) (by omega) ?_
  refine g_iaddN dX7_simulateTurn_25 ?_
  refine g_v1 dX7_simulateTurn_26 (vX7_224 rfl) rfl hAt.1 (Nat.le_of_ble_eq_true rfl) (Nat.le_of_ble_eq_true rfl) (Nat.le_of_ble_eq_true rfl) (q_sewUpTo hFt0 hIt (by omega)) (fun r3 M2 z2 hq3 => ?_) (fun E M2 z2 hq => by obtain ⟨hq, -⟩ := hq; cases hq)
  obtain ⟨hr3, hF3, hO3, hz3⟩ := hq3
  cases hr3
  have hX3 := CFr.of2 (a := a) (lo := lo) hO3 (by omega) (by omega) hz3
  subst hz3
  refine g_pop dX7_simulateTurn_29 rfl ?_
  refine g_goto (tgt := 253) dX7_simulateTurn_30 (by decide) ?_
  exact g_return rfl dX7_simulateTurn_253 (Nat.le_of_ble_eq_true rfl) (Nat.le_of_ble_eq_true rfl) ⟨rfl, hF3, hC.trial hO3 hF3, hX3⟩
theorem q_sim_jump (hC : CInv M a lo z f n h sv len g) (hFt0 : RugF M (a + 21) ft) (hIt : Rng ft) (hq : q < 2 ^ 27) (hk : k < 32) (h9 : 14 ≤ k ∧ k < 17) : WP mX7_simulateTurn 10 [some (.ref a), some (.int (nI r)), some (.int (nI q)), some (.int (nI k))] [] M z 0 0 (TrQ none M a lo ((f_jump (1 + q % 3) ft).1) f n h sv len g z) := by
  obtain ⟨ho, hF, -, hH, hS, ⟨sc, pl, gr, ti, lv, od, bk, hP⟩, ⟨O, Rq, rc, Cq, hAr⟩, l1, l2⟩ := id hC
  obtain ⟨Rt, lnt, sgt, hAt, hRelt⟩ := id hFt0
  refine g_iload_3 dX7_simulateTurn_10 ?_
  refine g_bipush (v := nI 13) dX7_simulateTurn_11 rfl ?_
  refine g_icmp_gtN (tgt := 33) dX7_simulateTurn_13 (by decide) (by omega) (by omega) (fun _ => ?_) (fun h13 => absurd h13 (by omega))
  refine g_iload_3 dX7_simulateTurn_33 ?_
  refine g_bipush (v := nI 16) dX7_simulateTurn_34 rfl ?_
  refine g_icmp_gtN (tgt := 55) dX7_simulateTurn_36 (by decide) (by omega) (by omega) (fun h36 => absurd h36 (by omega)) (fun _ => ?_)
  refine g_aload_0 dX7_simulateTurn_39 ?_
  refine g_get dX7_simulateTurn_40 (fX7_16 rfl) ho rfl ?_
  refine g_iconst (v := nI 1) dX7_simulateTurn_43 rfl ?_
  refine g_iload_2 dX7_simulateTurn_44 ?_
  refine g_iconst (v := nI 3) dX7_simulateTurn_45 rfl ?_
  refine g_iremN dX7_simulateTurn_46 (by omega) (by omega) (by omega) ?_
  refine g_iaddN dX7_simulateTurn_47 ?_
  refine g_v1 dX7_simulateTurn_48 (vX7_227 rfl) rfl hAt.1 (Nat.le_of_ble_eq_true rfl) (Nat.le_of_ble_eq_true rfl) (Nat.le_of_ble_eq_true rfl) (q_jumpOver hFt0 hIt (by omega)) (fun r3 M2 z2 hq3 => ?_) (fun E M2 z2 hq => by obtain ⟨hq, -⟩ := hq; cases hq)
  obtain ⟨hr3, hF3, hO3, hz3⟩ := hq3
  cases hr3
  have hX3 := CFr.of2 (a := a) (lo := lo) hO3 (by omega) (by omega) hz3
  subst hz3
  refine g_pop dX7_simulateTurn_51 rfl ?_
  refine g_goto (tgt := 253) dX7_simulateTurn_52 (by decide) ?_
  exact g_return rfl dX7_simulateTurn_253 (Nat.le_of_ble_eq_true rfl) (Nat.le_of_ble_eq_true rfl) ⟨rfl, hF3, hC.trial hO3 hF3, hX3⟩
theorem q_sim_l (hC : CInv M a lo z f n h sv len g) (hFt0 : RugF M (a + 21) ft) (hIt : Rng ft) (hq : q < 2 ^ 27) (hk : k < 32) (h9 : 17 ≤ k ∧ k < 20) : WP mX7_simulateTurn 10 [some (.ref a), some (.int (nI r)), some (.int (nI q)), some (.int (nI k))] [] M z 0 0 (TrQ none M a lo (f_turn ft 3) f n h sv len g z) := by
  obtain ⟨ho, hF, -, hH, hS, ⟨sc, pl, gr, ti, lv, od, bk, hP⟩, ⟨O, Rq, rc, Cq, hAr⟩, l1, l2⟩ := id hC
  obtain ⟨Rt, lnt, sgt, hAt, hRelt⟩ := id hFt0
  refine g_iload_3 dX7_simulateTurn_10 ?_
  refine g_bipush (v := nI 13) dX7_simulateTurn_11 rfl ?_
  refine g_icmp_gtN (tgt := 33) dX7_simulateTurn_13 (by decide) (by omega) (by omega) (fun _ => ?_) (fun h13 => absurd h13 (by omega))
  refine g_iload_3 dX7_simulateTurn_33 ?_
  refine g_bipush (v := nI 16) dX7_simulateTurn_34 rfl ?_
  refine g_icmp_gtN (tgt := 55) dX7_simulateTurn_36 (by decide) (by omega) (by omega) (fun _ => ?_) (fun h36 => absurd h36 (by omega))
  refine g_iload_3 dX7_simulateTurn_55 ?_
  refine g_bipush (v := nI 19) dX7_simulateTurn_56 rfl ?_
  refine g_icmp_gtN (tgt := 72) dX7_simulateTurn_58 (by decide) (by omega) (by omega) (fun h58 => absurd h58 (by omega)) (fun _ => ?_)
  refine g_aload_0 dX7_simulateTurn_61 ?_
  refine g_get dX7_simulateTurn_62 (fX7_16 rfl) ho rfl ?_
  refine g_iconst (v := -1) dX7_simulateTurn_65 rfl ?_
  refine g_v1 dX7_simulateTurn_66 (vX7_230 rfl) rfl hAt.1 (Nat.le_of_ble_eq_true rfl) (Nat.le_of_ble_eq_true rfl) (Nat.le_of_ble_eq_true rfl) (q_turnm hFt0 hIt) (fun r3 M2 z2 hq3 => ?_) (fun E M2 z2 hq => by obtain ⟨hq, -⟩ := hq; cases hq)
  obtain ⟨hr3, hF3, hO3, hz3⟩ := hq3
  cases hr3
  have hX3 := CFr.of2 (a := a) (lo := lo) hO3 (by omega) (by omega) hz3
  subst hz3
  refine g_goto (tgt := 253) dX7_simulateTurn_69 (by decide) ?_
  exact g_return rfl dX7_simulateTurn_253 (Nat.le_of_ble_eq_true rfl) (Nat.le_of_ble_eq_true rfl) ⟨rfl, hF3, hC.trial hO3 hF3, hX3⟩
theorem q_sim_r (hC : CInv M a lo z f n h sv len g) (hFt0 : RugF M (a + 21) ft) (hIt : Rng ft) (hq : q < 2 ^ 27) (hk : k < 32) (h9 : 20 ≤ k ∧ k < 23) : WP mX7_simulateTurn 10 [some (.ref a), some (.int (nI r)), some (.int (nI q)), some (.int (nI k))] [] M z 0 0 (TrQ none M a lo (f_turn ft 1) f n h sv len g z) := by
  obtain ⟨ho, hF, -, hH, hS, ⟨sc, pl, gr, ti, lv, od, bk, hP⟩, ⟨O, Rq, rc, Cq, hAr⟩, l1, l2⟩ := id hC
  obtain ⟨Rt, lnt, sgt, hAt, hRelt⟩ := id hFt0
  refine g_iload_3 dX7_simulateTurn_10 ?_
  refine g_bipush (v := nI 13) dX7_simulateTurn_11 rfl ?_
  refine g_icmp_gtN (tgt := 33) dX7_simulateTurn_13 (by decide) (by omega) (by omega) (fun _ => ?_) (fun h13 => absurd h13 (by omega))
  refine g_iload_3 dX7_simulateTurn_33 ?_
  refine g_bipush (v := nI 16) dX7_simulateTurn_34 rfl ?_
  refine g_icmp_gtN (tgt := 55) dX7_simulateTurn_36 (by decide) (by omega) (by omega) (fun _ => ?_) (fun h36 => absurd h36 (by omega))
  refine g_iload_3 dX7_simulateTurn_55 ?_
  refine g_bipush (v := nI 19) dX7_simulateTurn_56 rfl ?_
  refine g_icmp_gtN (tgt := 72) dX7_simulateTurn_58 (by decide) (by omega) (by omega) (fun _ => ?_) (fun h58 => absurd h58 (by omega))
  refine g_iload_3 dX7_simulateTurn_72 ?_
  refine g_bipush (v := nI 22) dX7_simulateTurn_73 rfl ?_
  refine g_icmp_gtN (tgt := 89) dX7_simulateTurn_75 (by decide) (by omega) (by omega) (fun h75 => absurd h75 (by omega)) (fun _ => ?_)
  refine g_aload_0 dX7_simulateTurn_78 ?_
  refine g_get dX7_simulateTurn_79 (fX7_16 rfl) ho rfl ?_
  refine g_iconst (v := nI 1) dX7_simulateTurn_82 rfl ?_
  refine g_v1 dX7_simulateTurn_83 (vX7_230 rfl) rfl hAt.1 (Nat.le_of_ble_eq_true rfl) (Nat.le_of_ble_eq_true rfl) (Nat.le_of_ble_eq_true rfl) (q_turn1 hFt0 hIt) (fun r3 M2 z2 hq3 => ?_) (fun E M2 z2 hq => by obtain ⟨hq, -⟩ := hq; cases hq)
  obtain ⟨hr3, hF3, hO3, hz3⟩ := hq3
  cases hr3
  have hX3 := CFr.of2 (a := a) (lo := lo) hO3 (by omega) (by omega) hz3
  subst hz3
  refine g_goto (tgt := 253) dX7_simulateTurn_86 (by decide) ?_
  exact g_return rfl dX7_simulateTurn_253 (Nat.le_of_ble_eq_true rfl) (Nat.le_of_ble_eq_true rfl) ⟨rfl, hF3, hC.trial hO3 hF3, hX3⟩
theorem q_tryThreadF (hF : RugF M a f) (hI : Rng f) (hc : c < 5) (h20 : ¬ nI 20 ≤ f (432 + 5 * c)) : Runs mX4_tryThread [.ref a, .int (nI c)] M z (Mut (some (.int (bI (decide (nI 20 ≤ f (432 + 5 * c)))))) M a f z) := by
  have e := q_tryThread (z := z) hF hI hc
  rw [if_neg h20] at e
  exact e
theorem q_tryCutF (hF : RugF M a f) (hI : Rng f) (ht : ¬ 0 < tno f) : Runs mX4_tryCut [.ref a] M z (Mut (some (.int (bI (decide (0 < tno f))))) M a f z) := by
  have e := q_tryCut (z := z) hF hI
  unfold f_cut0 at e
  rw [if_neg ht] at e
  exact e
theorem q_tryEaseF (hF : RugF M a f) (hI : Rng f) (ht : ¬ 0 < tno f) : Runs mX4_tryEase [.ref a] M z (Mut (some (.int (bI (decide (0 < tno f))))) M a f z) := by
  have e := q_tryEase (z := z) hF hI
  rw [if_neg ht] at e
  exact e
theorem q_tryUnpickF (hF : RugF M a f) (hI : Rng f) (hj : j < 144) (hl : ¬ hasL (f (144 + j)) = true) : Runs mX4_tryUnpick [.ref a, .int (nI j)] M z (Mut none M a f z) := by
  have e := q_tryUnpick (z := z) hF hI hj
  rw [if_neg hl] at e
  exact e
theorem q_sim_t1 (hC : CInv M a lo z f n h sv len g) (hFt0 : RugF M (a + 21) ft) (hIt : Rng ft) (hq : q < 2 ^ 27) (hk : k < 32) (h9 : 23 ≤ k ∧ k < 26) (h20 : nI 20 ≤ ft (432 + 5 * (q % 5))) : WP mX7_simulateTurn 10 [some (.ref a), some (.int (nI r)), some (.int (nI q)), some (.int (nI k))] [] M z 0 0 (TrQ none M a lo (f_thread ft (q % 5)) f n h sv len g z) := by
  obtain ⟨ho, hF, -, hH, hS, ⟨sc, pl, gr, ti, lv, od, bk, hP⟩, ⟨O, Rq, rc, Cq, hAr⟩, l1, l2⟩ := id hC
  obtain ⟨Rt, lnt, sgt, hAt, hRelt⟩ := id hFt0
  refine g_iload_3 dX7_simulateTurn_10 ?_
  refine g_bipush (v := nI 13) dX7_simulateTurn_11 rfl ?_
  refine g_icmp_gtN (tgt := 33) dX7_simulateTurn_13 (by decide) (by omega) (by omega) (fun _ => ?_) (fun h13 => absurd h13 (by omega))
  refine g_iload_3 dX7_simulateTurn_33 ?_
  refine g_bipush (v := nI 16) dX7_simulateTurn_34 rfl ?_
  refine g_icmp_gtN (tgt := 55) dX7_simulateTurn_36 (by decide) (by omega) (by omega) (fun _ => ?_) (fun h36 => absurd h36 (by omega))
  refine g_iload_3 dX7_simulateTurn_55 ?_
  refine g_bipush (v := nI 19) dX7_simulateTurn_56 rfl ?_
  refine g_icmp_gtN (tgt := 72) dX7_simulateTurn_58 (by decide) (by omega) (by omega) (fun _ => ?_) (fun h58 => absurd h58 (by omega))
  refine g_iload_3 dX7_simulateTurn_72 ?_
  refine g_bipush (v := nI 22) dX7_simulateTurn_73 rfl ?_
  refine g_icmp_gtN (tgt := 89) dX7_simulateTurn_75 (by decide) (by omega) (by omega) (fun _ => ?_) (fun h75 => absurd h75 (by omega))
  refine g_iload_3 dX7_simulateTurn_89 ?_
  refine g_bipush (v := nI 25) dX7_simulateTurn_90 rfl ?_
  refine g_icmp_gtN (tgt := 109) dX7_simulateTurn_92 (by decide) (by omega) (by omega) (fun h92 => absurd h92 (by omega)) (fun _ => ?_)
  refine g_aload_0 dX7_simulateTurn_95 ?_
  refine g_get dX7_simulateTurn_96 (fX7_16 rfl) ho rfl ?_
  refine g_iload_2 dX7_simulateTurn_99 ?_
  refine g_iconst (v := nI 5) dX7_simulateTurn_100 rfl ?_
  refine g_iremN dX7_simulateTurn_101 (by omega) (by omega) (by omega) ?_
  refine g_v1 dX7_simulateTurn_102 (vX7_210 rfl) rfl hAt.1 (Nat.le_of_ble_eq_true rfl) (Nat.le_of_ble_eq_true rfl) (Nat.le_of_ble_eq_true rfl) (q_tryThreadT hFt0 hIt (by omega) h20) (fun r3 M2 z2 hq3 => ?_) (fun E M2 z2 hq => by obtain ⟨hq, -⟩ := hq; cases hq)
  obtain ⟨hr3, hF3, hO3, hz3⟩ := hq3
  cases hr3
  have hX3 := CFr.of2 (a := a) (lo := lo) hO3 (by omega) (by omega) hz3
  subst hz3
  refine g_pop dX7_simulateTurn_105 rfl ?_
  refine g_goto (tgt := 253) dX7_simulateTurn_106 (by decide) ?_
  exact g_return rfl dX7_simulateTurn_253 (Nat.le_of_ble_eq_true rfl) (Nat.le_of_ble_eq_true rfl) ⟨rfl, hF3, hC.trial hO3 hF3, hX3⟩
theorem q_sim_t0 (hC : CInv M a lo z f n h sv len g) (hFt0 : RugF M (a + 21) ft) (hIt : Rng ft) (hq : q < 2 ^ 27) (hk : k < 32) (h9 : 23 ≤ k ∧ k < 26) (h20 : ¬ nI 20 ≤ ft (432 + 5 * (q % 5))) : WP mX7_simulateTurn 10 [some (.ref a), some (.int (nI r)), some (.int (nI q)), some (.int (nI k))] [] M z 0 0 (TrQ none M a lo (ft) f n h sv len g z) := by
  obtain ⟨ho, hF, -, hH, hS, ⟨sc, pl, gr, ti, lv, od, bk, hP⟩, ⟨O, Rq, rc, Cq, hAr⟩, l1, l2⟩ := id hC
  obtain ⟨Rt, lnt, sgt, hAt, hRelt⟩ := id hFt0
  refine g_iload_3 dX7_simulateTurn_10 ?_
  refine g_bipush (v := nI 13) dX7_simulateTurn_11 rfl ?_
  refine g_icmp_gtN (tgt := 33) dX7_simulateTurn_13 (by decide) (by omega) (by omega) (fun _ => ?_) (fun h13 => absurd h13 (by omega))
  refine g_iload_3 dX7_simulateTurn_33 ?_
  refine g_bipush (v := nI 16) dX7_simulateTurn_34 rfl ?_
  refine g_icmp_gtN (tgt := 55) dX7_simulateTurn_36 (by decide) (by omega) (by omega) (fun _ => ?_) (fun h36 => absurd h36 (by omega))
  refine g_iload_3 dX7_simulateTurn_55 ?_
  refine g_bipush (v := nI 19) dX7_simulateTurn_56 rfl ?_
  refine g_icmp_gtN (tgt := 72) dX7_simulateTurn_58 (by decide) (by omega) (by omega) (fun _ => ?_) (fun h58 => absurd h58 (by omega))
  refine g_iload_3 dX7_simulateTurn_72 ?_
  refine g_bipush (v := nI 22) dX7_simulateTurn_73 rfl ?_
  refine g_icmp_gtN (tgt := 89) dX7_simulateTurn_75 (by decide) (by omega) (by omega) (fun _ => ?_) (fun h75 => absurd h75 (by omega))
  refine g_iload_3 dX7_simulateTurn_89 ?_
  refine g_bipush (v := nI 25) dX7_simulateTurn_90 rfl ?_
  refine g_icmp_gtN (tgt := 109) dX7_simulateTurn_92 (by decide) (by omega) (by omega) (fun h92 => absurd h92 (by omega)) (fun _ => ?_)
  refine g_aload_0 dX7_simulateTurn_95 ?_
  refine g_get dX7_simulateTurn_96 (fX7_16 rfl) ho rfl ?_
  refine g_iload_2 dX7_simulateTurn_99 ?_
  refine g_iconst (v := nI 5) dX7_simulateTurn_100 rfl ?_
  refine g_iremN dX7_simulateTurn_101 (by omega) (by omega) (by omega) ?_
  refine g_v1 dX7_simulateTurn_102 (vX7_210 rfl) rfl hAt.1 (Nat.le_of_ble_eq_true rfl) (Nat.le_of_ble_eq_true rfl) (Nat.le_of_ble_eq_true rfl) (q_tryThreadF hFt0 hIt (by omega) h20) (fun r3 M2 z2 hq3 => ?_) (fun E M2 z2 hq => by obtain ⟨hq, -⟩ := hq; cases hq)
  obtain ⟨hr3, hF3, hO3, hz3⟩ := hq3
  cases hr3
  have hX3 := CFr.of2 (a := a) (lo := lo) hO3 (by omega) (by omega) hz3
  subst hz3
  refine g_pop dX7_simulateTurn_105 rfl ?_
  refine g_goto (tgt := 253) dX7_simulateTurn_106 (by decide) ?_
  exact g_return rfl dX7_simulateTurn_253 (Nat.le_of_ble_eq_true rfl) (Nat.le_of_ble_eq_true rfl) ⟨rfl, hF3, hC.trial hO3 hF3, hX3⟩
theorem q_sim_c1 (hC : CInv M a lo z f n h sv len g) (hFt0 : RugF M (a + 21) ft) (hIt : Rng ft) (hq : q < 2 ^ 27) (hk : k < 32) (h9 : k = 26) (h4 : q % 4 = 0) (ht : 0 < tno ft) : WP mX7_simulateTurn 10 [some (.ref a), some (.int (nI r)), some (.int (nI q)), some (.int (nI k))] [] M z 0 0 (TrQ none M a lo (f_cut ft) f n h sv len g z) := by
  obtain ⟨ho, hF, -, hH, hS, ⟨sc, pl, gr, ti, lv, od, bk, hP⟩, ⟨O, Rq, rc, Cq, hAr⟩, l1, l2⟩ := id hC
  obtain ⟨Rt, lnt, sgt, hAt, hRelt⟩ := id hFt0
  refine g_iload_3 dX7_simulateTurn_10 ?_
  refine g_bipush (v := nI 13) dX7_simulateTurn_11 rfl ?_
  refine g_icmp_gtN (tgt := 33) dX7_simulateTurn_13 (by decide) (by omega) (by omega) (fun _ => ?_) (fun h13 => absurd h13 (by omega))
  refine g_iload_3 dX7_simulateTurn_33 ?_
  refine g_bipush (v := nI 16) dX7_simulateTurn_34 rfl ?_
  refine g_icmp_gtN (tgt := 55) dX7_simulateTurn_36 (by decide) (by omega) (by omega) (fun _ => ?_) (fun h36 => absurd h36 (by omega))
  refine g_iload_3 dX7_simulateTurn_55 ?_
  refine g_bipush (v := nI 19) dX7_simulateTurn_56 rfl ?_
  refine g_icmp_gtN (tgt := 72) dX7_simulateTurn_58 (by decide) (by omega) (by omega) (fun _ => ?_) (fun h58 => absurd h58 (by omega))
  refine g_iload_3 dX7_simulateTurn_72 ?_
  refine g_bipush (v := nI 22) dX7_simulateTurn_73 rfl ?_
  refine g_icmp_gtN (tgt := 89) dX7_simulateTurn_75 (by decide) (by omega) (by omega) (fun _ => ?_) (fun h75 => absurd h75 (by omega))
  refine g_iload_3 dX7_simulateTurn_89 ?_
  refine g_bipush (v := nI 25) dX7_simulateTurn_90 rfl ?_
  refine g_icmp_gtN (tgt := 109) dX7_simulateTurn_92 (by decide) (by omega) (by omega) (fun _ => ?_) (fun h92 => absurd h92 (by omega))
  refine g_iload_3 dX7_simulateTurn_109 ?_
  refine g_bipush (v := nI 26) dX7_simulateTurn_110 rfl ?_
  refine g_icmp_neN (tgt := 132) dX7_simulateTurn_112 (by decide) (by omega) (by omega) (fun h112 => absurd h112 (by omega)) (fun _ => ?_)
  refine g_iload_2 dX7_simulateTurn_115 ?_
  refine g_iconst (v := nI 4) dX7_simulateTurn_116 rfl ?_
  refine g_iremN dX7_simulateTurn_117 (by omega) (by omega) (by omega) ?_
  refine g_if_neN (tgt := 132) dX7_simulateTurn_118 (by decide) (by omega) (fun h118 => absurd h4 h118) (fun _ => ?_)
  refine g_aload_0 dX7_simulateTurn_121 ?_
  refine g_get dX7_simulateTurn_122 (fX7_16 rfl) ho rfl ?_
  refine g_v0 dX7_simulateTurn_125 (vX7_216 rfl) rfl hAt.1 (Nat.le_of_ble_eq_true rfl) (Nat.le_of_ble_eq_true rfl) (Nat.le_of_ble_eq_true rfl) (q_tryCutT hFt0 hIt ht) (fun r3 M2 z2 hq3 => ?_) (fun E M2 z2 hq => by obtain ⟨hq, -⟩ := hq; cases hq)
  obtain ⟨hr3, hF3, hO3, hz3⟩ := hq3
  cases hr3
  have hX3 := CFr.of2 (a := a) (lo := lo) hO3 (by omega) (by omega) hz3
  subst hz3
  refine g_pop dX7_simulateTurn_128 rfl ?_
  refine g_goto (tgt := 253) dX7_simulateTurn_129 (by decide) ?_
  exact g_return rfl dX7_simulateTurn_253 (Nat.le_of_ble_eq_true rfl) (Nat.le_of_ble_eq_true rfl) ⟨rfl, hF3, hC.trial hO3 hF3, hX3⟩
theorem q_sim_c0 (hC : CInv M a lo z f n h sv len g) (hFt0 : RugF M (a + 21) ft) (hIt : Rng ft) (hq : q < 2 ^ 27) (hk : k < 32) (h9 : k = 26) (h4 : q % 4 = 0) (ht : ¬ 0 < tno ft) : WP mX7_simulateTurn 10 [some (.ref a), some (.int (nI r)), some (.int (nI q)), some (.int (nI k))] [] M z 0 0 (TrQ none M a lo (ft) f n h sv len g z) := by
  obtain ⟨ho, hF, -, hH, hS, ⟨sc, pl, gr, ti, lv, od, bk, hP⟩, ⟨O, Rq, rc, Cq, hAr⟩, l1, l2⟩ := id hC
  obtain ⟨Rt, lnt, sgt, hAt, hRelt⟩ := id hFt0
  refine g_iload_3 dX7_simulateTurn_10 ?_
  refine g_bipush (v := nI 13) dX7_simulateTurn_11 rfl ?_
  refine g_icmp_gtN (tgt := 33) dX7_simulateTurn_13 (by decide) (by omega) (by omega) (fun _ => ?_) (fun h13 => absurd h13 (by omega))
  refine g_iload_3 dX7_simulateTurn_33 ?_
  refine g_bipush (v := nI 16) dX7_simulateTurn_34 rfl ?_
  refine g_icmp_gtN (tgt := 55) dX7_simulateTurn_36 (by decide) (by omega) (by omega) (fun _ => ?_) (fun h36 => absurd h36 (by omega))
  refine g_iload_3 dX7_simulateTurn_55 ?_
  refine g_bipush (v := nI 19) dX7_simulateTurn_56 rfl ?_
  refine g_icmp_gtN (tgt := 72) dX7_simulateTurn_58 (by decide) (by omega) (by omega) (fun _ => ?_) (fun h58 => absurd h58 (by omega))
  refine g_iload_3 dX7_simulateTurn_72 ?_
  refine g_bipush (v := nI 22) dX7_simulateTurn_73 rfl ?_
  refine g_icmp_gtN (tgt := 89) dX7_simulateTurn_75 (by decide) (by omega) (by omega) (fun _ => ?_) (fun h75 => absurd h75 (by omega))
  refine g_iload_3 dX7_simulateTurn_89 ?_
  refine g_bipush (v := nI 25) dX7_simulateTurn_90 rfl ?_
  refine g_icmp_gtN (tgt := 109) dX7_simulateTurn_92 (by decide) (by omega) (by omega) (fun _ => ?_) (fun h92 => absurd h92 (by omega))
  refine g_iload_3 dX7_simulateTurn_109 ?_
  refine g_bipush (v := nI 26) dX7_simulateTurn_110 rfl ?_
  refine g_icmp_neN (tgt := 132) dX7_simulateTurn_112 (by decide) (by omega) (by omega) (fun h112 => absurd h112 (by omega)) (fun _ => ?_)
  refine g_iload_2 dX7_simulateTurn_115 ?_
  refine g_iconst (v := nI 4) dX7_simulateTurn_116 rfl ?_
  refine g_iremN dX7_simulateTurn_117 (by omega) (by omega) (by omega) ?_
  refine g_if_neN (tgt := 132) dX7_simulateTurn_118 (by decide) (by omega) (fun h118 => absurd h4 h118) (fun _ => ?_)
  refine g_aload_0 dX7_simulateTurn_121 ?_
  refine g_get dX7_simulateTurn_122 (fX7_16 rfl) ho rfl ?_
  refine g_v0 dX7_simulateTurn_125 (vX7_216 rfl) rfl hAt.1 (Nat.le_of_ble_eq_true rfl) (Nat.le_of_ble_eq_true rfl) (Nat.le_of_ble_eq_true rfl) (q_tryCutF hFt0 hIt ht) (fun r3 M2 z2 hq3 => ?_) (fun E M2 z2 hq => by obtain ⟨hq, -⟩ := hq; cases hq)
  obtain ⟨hr3, hF3, hO3, hz3⟩ := hq3
  cases hr3
  have hX3 := CFr.of2 (a := a) (lo := lo) hO3 (by omega) (by omega) hz3
  subst hz3
  refine g_pop dX7_simulateTurn_128 rfl ?_
  refine g_goto (tgt := 253) dX7_simulateTurn_129 (by decide) ?_
  exact g_return rfl dX7_simulateTurn_253 (Nat.le_of_ble_eq_true rfl) (Nat.le_of_ble_eq_true rfl) ⟨rfl, hF3, hC.trial hO3 hF3, hX3⟩
theorem q_sim_cx (hC : CInv M a lo z f n h sv len g) (hFt0 : RugF M (a + 21) ft) (hIt : Rng ft) (hq : q < 2 ^ 27) (hk : k < 32) (h9 : k = 26) (h4 : ¬ q % 4 = 0) : WP mX7_simulateTurn 10 [some (.ref a), some (.int (nI r)), some (.int (nI q)), some (.int (nI k))] [] M z 0 0 (TrQ none M a lo (ft) f n h sv len g z) := by
  obtain ⟨ho, hF, -, hH, hS, ⟨sc, pl, gr, ti, lv, od, bk, hP⟩, ⟨O, Rq, rc, Cq, hAr⟩, l1, l2⟩ := id hC
  obtain ⟨Rt, lnt, sgt, hAt, hRelt⟩ := id hFt0
  refine g_iload_3 dX7_simulateTurn_10 ?_
  refine g_bipush (v := nI 13) dX7_simulateTurn_11 rfl ?_
  refine g_icmp_gtN (tgt := 33) dX7_simulateTurn_13 (by decide) (by omega) (by omega) (fun _ => ?_) (fun h13 => absurd h13 (by omega))
  refine g_iload_3 dX7_simulateTurn_33 ?_
  refine g_bipush (v := nI 16) dX7_simulateTurn_34 rfl ?_
  refine g_icmp_gtN (tgt := 55) dX7_simulateTurn_36 (by decide) (by omega) (by omega) (fun _ => ?_) (fun h36 => absurd h36 (by omega))
  refine g_iload_3 dX7_simulateTurn_55 ?_
  refine g_bipush (v := nI 19) dX7_simulateTurn_56 rfl ?_
  refine g_icmp_gtN (tgt := 72) dX7_simulateTurn_58 (by decide) (by omega) (by omega) (fun _ => ?_) (fun h58 => absurd h58 (by omega))
  refine g_iload_3 dX7_simulateTurn_72 ?_
  refine g_bipush (v := nI 22) dX7_simulateTurn_73 rfl ?_
  refine g_icmp_gtN (tgt := 89) dX7_simulateTurn_75 (by decide) (by omega) (by omega) (fun _ => ?_) (fun h75 => absurd h75 (by omega))
  refine g_iload_3 dX7_simulateTurn_89 ?_
  refine g_bipush (v := nI 25) dX7_simulateTurn_90 rfl ?_
  refine g_icmp_gtN (tgt := 109) dX7_simulateTurn_92 (by decide) (by omega) (by omega) (fun _ => ?_) (fun h92 => absurd h92 (by omega))
  refine g_iload_3 dX7_simulateTurn_109 ?_
  refine g_bipush (v := nI 26) dX7_simulateTurn_110 rfl ?_
  refine g_icmp_neN (tgt := 132) dX7_simulateTurn_112 (by decide) (by omega) (by omega) (fun h112 => absurd h112 (by omega)) (fun _ => ?_)
  refine g_iload_2 dX7_simulateTurn_115 ?_
  refine g_iconst (v := nI 4) dX7_simulateTurn_116 rfl ?_
  refine g_iremN dX7_simulateTurn_117 (by omega) (by omega) (by omega) ?_
  refine g_if_neN (tgt := 132) dX7_simulateTurn_118 (by decide) (by omega) (fun _ => ?_) (fun h118 => absurd h118 h4)
  refine g_iload_3 dX7_simulateTurn_132 ?_
  refine g_bipush (v := nI 27) dX7_simulateTurn_133 rfl ?_
  refine g_icmp_neN (tgt := 149) dX7_simulateTurn_135 (by decide) (by omega) (by omega) (fun _ => ?_) (fun h135 => absurd h135 (by omega))
  refine g_iload_3 dX7_simulateTurn_149 ?_
  refine g_bipush (v := nI 28) dX7_simulateTurn_150 rfl ?_
  refine g_icmp_neN (tgt := 171) dX7_simulateTurn_152 (by decide) (by omega) (by omega) (fun _ => ?_) (fun h152 => absurd h152 (by omega))
  refine g_iload_3 dX7_simulateTurn_171 ?_
  refine g_bipush (v := nI 29) dX7_simulateTurn_172 rfl ?_
  refine g_icmp_neN (tgt := 192) dX7_simulateTurn_174 (by decide) (by omega) (by omega) (fun _ => ?_) (fun h174 => absurd h174 (by omega))
  refine g_iload_3 dX7_simulateTurn_192 ?_
  refine g_bipush (v := nI 30) dX7_simulateTurn_193 rfl ?_
  refine g_icmp_neN (tgt := 225) dX7_simulateTurn_195 (by decide) (by omega) (by omega) (fun _ => ?_) (fun h195 => absurd h195 (by omega))
  refine g_iload_3 dX7_simulateTurn_225 ?_
  refine g_bipush (v := nI 31) dX7_simulateTurn_226 rfl ?_
  refine g_icmp_neN (tgt := 253) dX7_simulateTurn_228 (by decide) (by omega) (by omega) (fun _ => ?_) (fun h228 => absurd h228 (by omega))
  exact g_return rfl dX7_simulateTurn_253 (Nat.le_of_ble_eq_true rfl) (Nat.le_of_ble_eq_true rfl) ⟨rfl, hFt0, hC, CFr.rf⟩
theorem q_sim_e1 (hC : CInv M a lo z f n h sv len g) (hFt0 : RugF M (a + 21) ft) (hIt : Rng ft) (hq : q < 2 ^ 27) (hk : k < 32) (h9 : k = 27) (ht : 0 < tno ft) : WP mX7_simulateTurn 10 [some (.ref a), some (.int (nI r)), some (.int (nI q)), some (.int (nI k))] [] M z 0 0 (TrQ none M a lo (f_ease ft) f n h sv len g z) := by
  obtain ⟨ho, hF, -, hH, hS, ⟨sc, pl, gr, ti, lv, od, bk, hP⟩, ⟨O, Rq, rc, Cq, hAr⟩, l1, l2⟩ := id hC
  obtain ⟨Rt, lnt, sgt, hAt, hRelt⟩ := id hFt0
  refine g_iload_3 dX7_simulateTurn_10 ?_
  refine g_bipush (v := nI 13) dX7_simulateTurn_11 rfl ?_
  refine g_icmp_gtN (tgt := 33) dX7_simulateTurn_13 (by decide) (by omega) (by omega) (fun _ => ?_) (fun h13 => absurd h13 (by omega))
  refine g_iload_3 dX7_simulateTurn_33 ?_
  refine g_bipush (v := nI 16) dX7_simulateTurn_34 rfl ?_
  refine g_icmp_gtN (tgt := 55) dX7_simulateTurn_36 (by decide) (by omega) (by omega) (fun _ => ?_) (fun h36 => absurd h36 (by omega))
  refine g_iload_3 dX7_simulateTurn_55 ?_
  refine g_bipush (v := nI 19) dX7_simulateTurn_56 rfl ?_
  refine g_icmp_gtN (tgt := 72) dX7_simulateTurn_58 (by decide) (by omega) (by omega) (fun _ => ?_) (fun h58 => absurd h58 (by omega))
  refine g_iload_3 dX7_simulateTurn_72 ?_
  refine g_bipush (v := nI 22) dX7_simulateTurn_73 rfl ?_
  refine g_icmp_gtN (tgt := 89) dX7_simulateTurn_75 (by decide) (by omega) (by omega) (fun _ => ?_) (fun h75 => absurd h75 (by omega))
  refine g_iload_3 dX7_simulateTurn_89 ?_
  refine g_bipush (v := nI 25) dX7_simulateTurn_90 rfl ?_
  refine g_icmp_gtN (tgt := 109) dX7_simulateTurn_92 (by decide) (by omega) (by omega) (fun _ => ?_) (fun h92 => absurd h92 (by omega))
  refine g_iload_3 dX7_simulateTurn_109 ?_
  refine g_bipush (v := nI 26) dX7_simulateTurn_110 rfl ?_
  refine g_icmp_neN (tgt := 132) dX7_simulateTurn_112 (by decide) (by omega) (by omega) (fun _ => ?_) (fun h112 => absurd h112 (by omega))
  refine g_iload_3 dX7_simulateTurn_132 ?_
  refine g_bipush (v := nI 27) dX7_simulateTurn_133 rfl ?_
  refine g_icmp_neN (tgt := 149) dX7_simulateTurn_135 (by decide) (by omega) (by omega) (fun h135 => absurd h135 (by omega)) (fun _ => ?_)
  refine g_aload_0 dX7_simulateTurn_138 ?_
  refine g_get dX7_simulateTurn_139 (fX7_16 rfl) ho rfl ?_
  refine g_v0 dX7_simulateTurn_142 (vX7_233 rfl) rfl hAt.1 (Nat.le_of_ble_eq_true rfl) (Nat.le_of_ble_eq_true rfl) (Nat.le_of_ble_eq_true rfl) (q_tryEaseT hFt0 hIt ht) (fun r3 M2 z2 hq3 => ?_) (fun E M2 z2 hq => by obtain ⟨hq, -⟩ := hq; cases hq)
  obtain ⟨hr3, hF3, hO3, hz3⟩ := hq3
  cases hr3
  have hX3 := CFr.of2 (a := a) (lo := lo) hO3 (by omega) (by omega) hz3
  subst hz3
  refine g_pop dX7_simulateTurn_145 rfl ?_
  refine g_goto (tgt := 253) dX7_simulateTurn_146 (by decide) ?_
  exact g_return rfl dX7_simulateTurn_253 (Nat.le_of_ble_eq_true rfl) (Nat.le_of_ble_eq_true rfl) ⟨rfl, hF3, hC.trial hO3 hF3, hX3⟩
theorem q_sim_e0 (hC : CInv M a lo z f n h sv len g) (hFt0 : RugF M (a + 21) ft) (hIt : Rng ft) (hq : q < 2 ^ 27) (hk : k < 32) (h9 : k = 27) (ht : ¬ 0 < tno ft) : WP mX7_simulateTurn 10 [some (.ref a), some (.int (nI r)), some (.int (nI q)), some (.int (nI k))] [] M z 0 0 (TrQ none M a lo (ft) f n h sv len g z) := by
  obtain ⟨ho, hF, -, hH, hS, ⟨sc, pl, gr, ti, lv, od, bk, hP⟩, ⟨O, Rq, rc, Cq, hAr⟩, l1, l2⟩ := id hC
  obtain ⟨Rt, lnt, sgt, hAt, hRelt⟩ := id hFt0
  refine g_iload_3 dX7_simulateTurn_10 ?_
  refine g_bipush (v := nI 13) dX7_simulateTurn_11 rfl ?_
  refine g_icmp_gtN (tgt := 33) dX7_simulateTurn_13 (by decide) (by omega) (by omega) (fun _ => ?_) (fun h13 => absurd h13 (by omega))
  refine g_iload_3 dX7_simulateTurn_33 ?_
  refine g_bipush (v := nI 16) dX7_simulateTurn_34 rfl ?_
  refine g_icmp_gtN (tgt := 55) dX7_simulateTurn_36 (by decide) (by omega) (by omega) (fun _ => ?_) (fun h36 => absurd h36 (by omega))
  refine g_iload_3 dX7_simulateTurn_55 ?_
  refine g_bipush (v := nI 19) dX7_simulateTurn_56 rfl ?_
  refine g_icmp_gtN (tgt := 72) dX7_simulateTurn_58 (by decide) (by omega) (by omega) (fun _ => ?_) (fun h58 => absurd h58 (by omega))
  refine g_iload_3 dX7_simulateTurn_72 ?_
  refine g_bipush (v := nI 22) dX7_simulateTurn_73 rfl ?_
  refine g_icmp_gtN (tgt := 89) dX7_simulateTurn_75 (by decide) (by omega) (by omega) (fun _ => ?_) (fun h75 => absurd h75 (by omega))
  refine g_iload_3 dX7_simulateTurn_89 ?_
  refine g_bipush (v := nI 25) dX7_simulateTurn_90 rfl ?_
  refine g_icmp_gtN (tgt := 109) dX7_simulateTurn_92 (by decide) (by omega) (by omega) (fun _ => ?_) (fun h92 => absurd h92 (by omega))
  refine g_iload_3 dX7_simulateTurn_109 ?_
  refine g_bipush (v := nI 26) dX7_simulateTurn_110 rfl ?_
  refine g_icmp_neN (tgt := 132) dX7_simulateTurn_112 (by decide) (by omega) (by omega) (fun _ => ?_) (fun h112 => absurd h112 (by omega))
  refine g_iload_3 dX7_simulateTurn_132 ?_
  refine g_bipush (v := nI 27) dX7_simulateTurn_133 rfl ?_
  refine g_icmp_neN (tgt := 149) dX7_simulateTurn_135 (by decide) (by omega) (by omega) (fun h135 => absurd h135 (by omega)) (fun _ => ?_)
  refine g_aload_0 dX7_simulateTurn_138 ?_
  refine g_get dX7_simulateTurn_139 (fX7_16 rfl) ho rfl ?_
  refine g_v0 dX7_simulateTurn_142 (vX7_233 rfl) rfl hAt.1 (Nat.le_of_ble_eq_true rfl) (Nat.le_of_ble_eq_true rfl) (Nat.le_of_ble_eq_true rfl) (q_tryEaseF hFt0 hIt ht) (fun r3 M2 z2 hq3 => ?_) (fun E M2 z2 hq => by obtain ⟨hq, -⟩ := hq; cases hq)
  obtain ⟨hr3, hF3, hO3, hz3⟩ := hq3
  cases hr3
  have hX3 := CFr.of2 (a := a) (lo := lo) hO3 (by omega) (by omega) hz3
  subst hz3
  refine g_pop dX7_simulateTurn_145 rfl ?_
  refine g_goto (tgt := 253) dX7_simulateTurn_146 (by decide) ?_
  exact g_return rfl dX7_simulateTurn_253 (Nat.le_of_ble_eq_true rfl) (Nat.le_of_ble_eq_true rfl) ⟨rfl, hF3, hC.trial hO3 hF3, hX3⟩
theorem q_sim_h (hC : CInv M a lo z f n h sv len g) (hFt0 : RugF M (a + 21) ft) (hIt : Rng ft) (hq : q < 2 ^ 27) (hk : k < 32) (h9 : k = 28) : WP mX7_simulateTurn 10 [some (.ref a), some (.int (nI r)), some (.int (nI q)), some (.int (nI k))] [] M z 0 0 (TrQ none M a lo (upd ft 460 (nI (1 + q % 9))) f n h sv len g z) := by
  obtain ⟨ho, hF, -, hH, hS, ⟨sc, pl, gr, ti, lv, od, bk, hP⟩, ⟨O, Rq, rc, Cq, hAr⟩, l1, l2⟩ := id hC
  obtain ⟨Rt, lnt, sgt, hAt, hRelt⟩ := id hFt0
  refine g_iload_3 dX7_simulateTurn_10 ?_
  refine g_bipush (v := nI 13) dX7_simulateTurn_11 rfl ?_
  refine g_icmp_gtN (tgt := 33) dX7_simulateTurn_13 (by decide) (by omega) (by omega) (fun _ => ?_) (fun h13 => absurd h13 (by omega))
  refine g_iload_3 dX7_simulateTurn_33 ?_
  refine g_bipush (v := nI 16) dX7_simulateTurn_34 rfl ?_
  refine g_icmp_gtN (tgt := 55) dX7_simulateTurn_36 (by decide) (by omega) (by omega) (fun _ => ?_) (fun h36 => absurd h36 (by omega))
  refine g_iload_3 dX7_simulateTurn_55 ?_
  refine g_bipush (v := nI 19) dX7_simulateTurn_56 rfl ?_
  refine g_icmp_gtN (tgt := 72) dX7_simulateTurn_58 (by decide) (by omega) (by omega) (fun _ => ?_) (fun h58 => absurd h58 (by omega))
  refine g_iload_3 dX7_simulateTurn_72 ?_
  refine g_bipush (v := nI 22) dX7_simulateTurn_73 rfl ?_
  refine g_icmp_gtN (tgt := 89) dX7_simulateTurn_75 (by decide) (by omega) (by omega) (fun _ => ?_) (fun h75 => absurd h75 (by omega))
  refine g_iload_3 dX7_simulateTurn_89 ?_
  refine g_bipush (v := nI 25) dX7_simulateTurn_90 rfl ?_
  refine g_icmp_gtN (tgt := 109) dX7_simulateTurn_92 (by decide) (by omega) (by omega) (fun _ => ?_) (fun h92 => absurd h92 (by omega))
  refine g_iload_3 dX7_simulateTurn_109 ?_
  refine g_bipush (v := nI 26) dX7_simulateTurn_110 rfl ?_
  refine g_icmp_neN (tgt := 132) dX7_simulateTurn_112 (by decide) (by omega) (by omega) (fun _ => ?_) (fun h112 => absurd h112 (by omega))
  refine g_iload_3 dX7_simulateTurn_132 ?_
  refine g_bipush (v := nI 27) dX7_simulateTurn_133 rfl ?_
  refine g_icmp_neN (tgt := 149) dX7_simulateTurn_135 (by decide) (by omega) (by omega) (fun _ => ?_) (fun h135 => absurd h135 (by omega))
  refine g_iload_3 dX7_simulateTurn_149 ?_
  refine g_bipush (v := nI 28) dX7_simulateTurn_150 rfl ?_
  refine g_icmp_neN (tgt := 171) dX7_simulateTurn_152 (by decide) (by omega) (by omega) (fun h152 => absurd h152 (by omega)) (fun _ => ?_)
  refine g_aload_0 dX7_simulateTurn_155 ?_
  refine g_get dX7_simulateTurn_156 (fX7_16 rfl) ho rfl ?_
  refine g_iconst (v := nI 1) dX7_simulateTurn_159 rfl ?_
  refine g_iload_2 dX7_simulateTurn_160 ?_
  refine g_bipush (v := nI 9) dX7_simulateTurn_161 rfl ?_
  refine g_iremN dX7_simulateTurn_163 (by omega) (by omega) (by omega) ?_
  refine g_iaddN dX7_simulateTurn_164 ?_
  refine g_putS (ty := .int) (s := 3) dX7_simulateTurn_165 (fX7_133 rfl) (by decide) hAt (fun M4 hA4 hO4 => ?_)
  have hao4 := hA4.1
  have hco4 := hA4.2.1.1
  have hyo4 := hA4.2.2.1.1
  refine g_goto (tgt := 253) dX7_simulateTurn_168 (by decide) ?_
  exact g_return rfl dX7_simulateTurn_253 (Nat.le_of_ble_eq_true rfl) (Nat.le_of_ble_eq_true rfl) ⟨rfl, ⟨_, lnt, sgt, hA4, hRelt.s3⟩, hC.trial hO4 ⟨_, lnt, sgt, hA4, hRelt.s3⟩, CFr.of hO4 (by omega) (by omega)⟩
theorem q_sim_u1 (hC : CInv M a lo z f n h sv len g) (hFt0 : RugF M (a + 21) ft) (hIt : Rng ft) (hq : q < 2 ^ 27) (hk : k < 32) (h9 : k = 29) (hl : hasL (ft (144 + q % 144)) = true) : WP mX7_simulateTurn 10 [some (.ref a), some (.int (nI r)), some (.int (nI q)), some (.int (nI k))] [] M z 0 0 (TrQ none M a lo (f_unpick ft (q % 144)) f n h sv len g z) := by
  obtain ⟨ho, hF, -, hH, hS, ⟨sc, pl, gr, ti, lv, od, bk, hP⟩, ⟨O, Rq, rc, Cq, hAr⟩, l1, l2⟩ := id hC
  obtain ⟨Rt, lnt, sgt, hAt, hRelt⟩ := id hFt0
  refine g_iload_3 dX7_simulateTurn_10 ?_
  refine g_bipush (v := nI 13) dX7_simulateTurn_11 rfl ?_
  refine g_icmp_gtN (tgt := 33) dX7_simulateTurn_13 (by decide) (by omega) (by omega) (fun _ => ?_) (fun h13 => absurd h13 (by omega))
  refine g_iload_3 dX7_simulateTurn_33 ?_
  refine g_bipush (v := nI 16) dX7_simulateTurn_34 rfl ?_
  refine g_icmp_gtN (tgt := 55) dX7_simulateTurn_36 (by decide) (by omega) (by omega) (fun _ => ?_) (fun h36 => absurd h36 (by omega))
  refine g_iload_3 dX7_simulateTurn_55 ?_
  refine g_bipush (v := nI 19) dX7_simulateTurn_56 rfl ?_
  refine g_icmp_gtN (tgt := 72) dX7_simulateTurn_58 (by decide) (by omega) (by omega) (fun _ => ?_) (fun h58 => absurd h58 (by omega))
  refine g_iload_3 dX7_simulateTurn_72 ?_
  refine g_bipush (v := nI 22) dX7_simulateTurn_73 rfl ?_
  refine g_icmp_gtN (tgt := 89) dX7_simulateTurn_75 (by decide) (by omega) (by omega) (fun _ => ?_) (fun h75 => absurd h75 (by omega))
  refine g_iload_3 dX7_simulateTurn_89 ?_
  refine g_bipush (v := nI 25) dX7_simulateTurn_90 rfl ?_
  refine g_icmp_gtN (tgt := 109) dX7_simulateTurn_92 (by decide) (by omega) (by omega) (fun _ => ?_) (fun h92 => absurd h92 (by omega))
  refine g_iload_3 dX7_simulateTurn_109 ?_
  refine g_bipush (v := nI 26) dX7_simulateTurn_110 rfl ?_
  refine g_icmp_neN (tgt := 132) dX7_simulateTurn_112 (by decide) (by omega) (by omega) (fun _ => ?_) (fun h112 => absurd h112 (by omega))
  refine g_iload_3 dX7_simulateTurn_132 ?_
  refine g_bipush (v := nI 27) dX7_simulateTurn_133 rfl ?_
  refine g_icmp_neN (tgt := 149) dX7_simulateTurn_135 (by decide) (by omega) (by omega) (fun _ => ?_) (fun h135 => absurd h135 (by omega))
  refine g_iload_3 dX7_simulateTurn_149 ?_
  refine g_bipush (v := nI 28) dX7_simulateTurn_150 rfl ?_
  refine g_icmp_neN (tgt := 171) dX7_simulateTurn_152 (by decide) (by omega) (by omega) (fun _ => ?_) (fun h152 => absurd h152 (by omega))
  refine g_iload_3 dX7_simulateTurn_171 ?_
  refine g_bipush (v := nI 29) dX7_simulateTurn_172 rfl ?_
  refine g_icmp_neN (tgt := 192) dX7_simulateTurn_174 (by decide) (by omega) (by omega) (fun h174 => absurd h174 (by omega)) (fun _ => ?_)
  refine g_aload_0 dX7_simulateTurn_177 ?_
  refine g_get dX7_simulateTurn_178 (fX7_16 rfl) ho rfl ?_
  refine g_iload_2 dX7_simulateTurn_181 ?_
  refine g_sipush (v := nI 144) dX7_simulateTurn_182 rfl ?_
  refine g_iremN dX7_simulateTurn_185 (by omega) (by omega) (by omega) ?_
  refine g_v1 dX7_simulateTurn_186 (vX7_253 rfl) rfl hAt.1 (Nat.le_of_ble_eq_true rfl) (Nat.le_of_ble_eq_true rfl) (Nat.le_of_ble_eq_true rfl) (q_tryUnpickT hFt0 hIt (by omega) hl) (fun r3 M2 z2 hq3 => ?_) (fun E M2 z2 hq => by obtain ⟨hq, -⟩ := hq; cases hq)
  obtain ⟨hr3, hF3, hO3, hz3⟩ := hq3
  cases hr3
  have hX3 := CFr.of2 (a := a) (lo := lo) hO3 (by omega) (by omega) hz3
  subst hz3
  refine g_goto (tgt := 253) dX7_simulateTurn_189 (by decide) ?_
  exact g_return rfl dX7_simulateTurn_253 (Nat.le_of_ble_eq_true rfl) (Nat.le_of_ble_eq_true rfl) ⟨rfl, hF3, hC.trial hO3 hF3, hX3⟩
theorem q_sim_u0 (hC : CInv M a lo z f n h sv len g) (hFt0 : RugF M (a + 21) ft) (hIt : Rng ft) (hq : q < 2 ^ 27) (hk : k < 32) (h9 : k = 29) (hl : ¬ hasL (ft (144 + q % 144)) = true) : WP mX7_simulateTurn 10 [some (.ref a), some (.int (nI r)), some (.int (nI q)), some (.int (nI k))] [] M z 0 0 (TrQ none M a lo (ft) f n h sv len g z) := by
  obtain ⟨ho, hF, -, hH, hS, ⟨sc, pl, gr, ti, lv, od, bk, hP⟩, ⟨O, Rq, rc, Cq, hAr⟩, l1, l2⟩ := id hC
  obtain ⟨Rt, lnt, sgt, hAt, hRelt⟩ := id hFt0
  refine g_iload_3 dX7_simulateTurn_10 ?_
  refine g_bipush (v := nI 13) dX7_simulateTurn_11 rfl ?_
  refine g_icmp_gtN (tgt := 33) dX7_simulateTurn_13 (by decide) (by omega) (by omega) (fun _ => ?_) (fun h13 => absurd h13 (by omega))
  refine g_iload_3 dX7_simulateTurn_33 ?_
  refine g_bipush (v := nI 16) dX7_simulateTurn_34 rfl ?_
  refine g_icmp_gtN (tgt := 55) dX7_simulateTurn_36 (by decide) (by omega) (by omega) (fun _ => ?_) (fun h36 => absurd h36 (by omega))
  refine g_iload_3 dX7_simulateTurn_55 ?_
  refine g_bipush (v := nI 19) dX7_simulateTurn_56 rfl ?_
  refine g_icmp_gtN (tgt := 72) dX7_simulateTurn_58 (by decide) (by omega) (by omega) (fun _ => ?_) (fun h58 => absurd h58 (by omega))
  refine g_iload_3 dX7_simulateTurn_72 ?_
  refine g_bipush (v := nI 22) dX7_simulateTurn_73 rfl ?_
  refine g_icmp_gtN (tgt := 89) dX7_simulateTurn_75 (by decide) (by omega) (by omega) (fun _ => ?_) (fun h75 => absurd h75 (by omega))
  refine g_iload_3 dX7_simulateTurn_89 ?_
  refine g_bipush (v := nI 25) dX7_simulateTurn_90 rfl ?_
  refine g_icmp_gtN (tgt := 109) dX7_simulateTurn_92 (by decide) (by omega) (by omega) (fun _ => ?_) (fun h92 => absurd h92 (by omega))
  refine g_iload_3 dX7_simulateTurn_109 ?_
  refine g_bipush (v := nI 26) dX7_simulateTurn_110 rfl ?_
  refine g_icmp_neN (tgt := 132) dX7_simulateTurn_112 (by decide) (by omega) (by omega) (fun _ => ?_) (fun h112 => absurd h112 (by omega))
  refine g_iload_3 dX7_simulateTurn_132 ?_
  refine g_bipush (v := nI 27) dX7_simulateTurn_133 rfl ?_
  refine g_icmp_neN (tgt := 149) dX7_simulateTurn_135 (by decide) (by omega) (by omega) (fun _ => ?_) (fun h135 => absurd h135 (by omega))
  refine g_iload_3 dX7_simulateTurn_149 ?_
  refine g_bipush (v := nI 28) dX7_simulateTurn_150 rfl ?_
  refine g_icmp_neN (tgt := 171) dX7_simulateTurn_152 (by decide) (by omega) (by omega) (fun _ => ?_) (fun h152 => absurd h152 (by omega))
  refine g_iload_3 dX7_simulateTurn_171 ?_
  refine g_bipush (v := nI 29) dX7_simulateTurn_172 rfl ?_
  refine g_icmp_neN (tgt := 192) dX7_simulateTurn_174 (by decide) (by omega) (by omega) (fun h174 => absurd h174 (by omega)) (fun _ => ?_)
  refine g_aload_0 dX7_simulateTurn_177 ?_
  refine g_get dX7_simulateTurn_178 (fX7_16 rfl) ho rfl ?_
  refine g_iload_2 dX7_simulateTurn_181 ?_
  refine g_sipush (v := nI 144) dX7_simulateTurn_182 rfl ?_
  refine g_iremN dX7_simulateTurn_185 (by omega) (by omega) (by omega) ?_
  refine g_v1 dX7_simulateTurn_186 (vX7_253 rfl) rfl hAt.1 (Nat.le_of_ble_eq_true rfl) (Nat.le_of_ble_eq_true rfl) (Nat.le_of_ble_eq_true rfl) (q_tryUnpickF hFt0 hIt (by omega) hl) (fun r3 M2 z2 hq3 => ?_) (fun E M2 z2 hq => by obtain ⟨hq, -⟩ := hq; cases hq)
  obtain ⟨hr3, hF3, hO3, hz3⟩ := hq3
  cases hr3
  have hX3 := CFr.of2 (a := a) (lo := lo) hO3 (by omega) (by omega) hz3
  subst hz3
  refine g_goto (tgt := 253) dX7_simulateTurn_189 (by decide) ?_
  exact g_return rfl dX7_simulateTurn_253 (Nat.le_of_ble_eq_true rfl) (Nat.le_of_ble_eq_true rfl) ⟨rfl, hF3, hC.trial hO3 hF3, hX3⟩
theorem q_sim_s1 (hC : CInv M a lo z f n h sv len g) (hFt0 : RugF M (a + 21) ft) (hIt : Rng ft) (hq : q < 2 ^ 27) (hk : k < 32) (h9 : k = 30) (h8 : q / 9 % 8 = 0) : WP mX7_simulateTurn 10 [some (.ref a), some (.int (nI r)), some (.int (nI q)), some (.int (nI k))] [] M z 0 0 (TrQ none M a lo ((f_shear (nI (1 + q % 9)) 144 ft).1) f n h sv len g z) := by
  obtain ⟨ho, hF, -, hH, hS, ⟨sc, pl, gr, ti, lv, od, bk, hP⟩, ⟨O, Rq, rc, Cq, hAr⟩, l1, l2⟩ := id hC
  obtain ⟨Rt, lnt, sgt, hAt, hRelt⟩ := id hFt0
  refine g_iload_3 dX7_simulateTurn_10 ?_
  refine g_bipush (v := nI 13) dX7_simulateTurn_11 rfl ?_
  refine g_icmp_gtN (tgt := 33) dX7_simulateTurn_13 (by decide) (by omega) (by omega) (fun _ => ?_) (fun h13 => absurd h13 (by omega))
  refine g_iload_3 dX7_simulateTurn_33 ?_
  refine g_bipush (v := nI 16) dX7_simulateTurn_34 rfl ?_
  refine g_icmp_gtN (tgt := 55) dX7_simulateTurn_36 (by decide) (by omega) (by omega) (fun _ => ?_) (fun h36 => absurd h36 (by omega))
  refine g_iload_3 dX7_simulateTurn_55 ?_
  refine g_bipush (v := nI 19) dX7_simulateTurn_56 rfl ?_
  refine g_icmp_gtN (tgt := 72) dX7_simulateTurn_58 (by decide) (by omega) (by omega) (fun _ => ?_) (fun h58 => absurd h58 (by omega))
  refine g_iload_3 dX7_simulateTurn_72 ?_
  refine g_bipush (v := nI 22) dX7_simulateTurn_73 rfl ?_
  refine g_icmp_gtN (tgt := 89) dX7_simulateTurn_75 (by decide) (by omega) (by omega) (fun _ => ?_) (fun h75 => absurd h75 (by omega))
  refine g_iload_3 dX7_simulateTurn_89 ?_
  refine g_bipush (v := nI 25) dX7_simulateTurn_90 rfl ?_
  refine g_icmp_gtN (tgt := 109) dX7_simulateTurn_92 (by decide) (by omega) (by omega) (fun _ => ?_) (fun h92 => absurd h92 (by omega))
  refine g_iload_3 dX7_simulateTurn_109 ?_
  refine g_bipush (v := nI 26) dX7_simulateTurn_110 rfl ?_
  refine g_icmp_neN (tgt := 132) dX7_simulateTurn_112 (by decide) (by omega) (by omega) (fun _ => ?_) (fun h112 => absurd h112 (by omega))
  refine g_iload_3 dX7_simulateTurn_132 ?_
  refine g_bipush (v := nI 27) dX7_simulateTurn_133 rfl ?_
  refine g_icmp_neN (tgt := 149) dX7_simulateTurn_135 (by decide) (by omega) (by omega) (fun _ => ?_) (fun h135 => absurd h135 (by omega))
  refine g_iload_3 dX7_simulateTurn_149 ?_
  refine g_bipush (v := nI 28) dX7_simulateTurn_150 rfl ?_
  refine g_icmp_neN (tgt := 171) dX7_simulateTurn_152 (by decide) (by omega) (by omega) (fun _ => ?_) (fun h152 => absurd h152 (by omega))
  refine g_iload_3 dX7_simulateTurn_171 ?_
  refine g_bipush (v := nI 29) dX7_simulateTurn_172 rfl ?_
  refine g_icmp_neN (tgt := 192) dX7_simulateTurn_174 (by decide) (by omega) (by omega) (fun _ => ?_) (fun h174 => absurd h174 (by omega))
  refine g_iload_3 dX7_simulateTurn_192 ?_
  refine g_bipush (v := nI 30) dX7_simulateTurn_193 rfl ?_
  refine g_icmp_neN (tgt := 225) dX7_simulateTurn_195 (by decide) (by omega) (by omega) (fun h195 => absurd h195 (by omega)) (fun _ => ?_)
  refine g_iload_2 dX7_simulateTurn_198 ?_
  refine g_bipush (v := nI 9) dX7_simulateTurn_199 rfl ?_
  refine g_idivN dX7_simulateTurn_201 (by omega) (by omega) (by omega) ?_
  refine g_bipush (v := nI 8) dX7_simulateTurn_202 rfl ?_
  refine g_iremN dX7_simulateTurn_204 (by omega) (by omega) (by omega) ?_
  refine g_if_neN (tgt := 225) dX7_simulateTurn_205 (by decide) (by omega) (fun h205 => absurd h8 h205) (fun _ => ?_)
  refine g_aload_0 dX7_simulateTurn_208 ?_
  refine g_get dX7_simulateTurn_209 (fX7_16 rfl) ho rfl ?_
  refine g_iconst (v := nI 1) dX7_simulateTurn_212 rfl ?_
  refine g_iload_2 dX7_simulateTurn_213 ?_
  refine g_bipush (v := nI 9) dX7_simulateTurn_214 rfl ?_
  refine g_iremN dX7_simulateTurn_216 (by omega) (by omega) (by omega) ?_
  refine g_iaddN dX7_simulateTurn_217 ?_
  refine g_v1 dX7_simulateTurn_218 (vX7_256 rfl) rfl hAt.1 (Nat.le_of_ble_eq_true rfl) (Nat.le_of_ble_eq_true rfl) (Nat.le_of_ble_eq_true rfl) (q_shearTo hFt0 hIt (by omega) (by omega)) (fun r3 M2 z2 hq3 => ?_) (fun E M2 z2 hq => by obtain ⟨hq, -⟩ := hq; cases hq)
  obtain ⟨hr3, hF3, hO3, hz3⟩ := hq3
  cases hr3
  have hX3 := CFr.of2 (a := a) (lo := lo) hO3 (by omega) (by omega) hz3
  subst hz3
  refine g_pop dX7_simulateTurn_221 rfl ?_
  refine g_goto (tgt := 253) dX7_simulateTurn_222 (by decide) ?_
  exact g_return rfl dX7_simulateTurn_253 (Nat.le_of_ble_eq_true rfl) (Nat.le_of_ble_eq_true rfl) ⟨rfl, hF3, hC.trial hO3 hF3, hX3⟩
theorem q_sim_sx (hC : CInv M a lo z f n h sv len g) (hFt0 : RugF M (a + 21) ft) (hIt : Rng ft) (hq : q < 2 ^ 27) (hk : k < 32) (h9 : k = 30) (h8 : ¬ q / 9 % 8 = 0) : WP mX7_simulateTurn 10 [some (.ref a), some (.int (nI r)), some (.int (nI q)), some (.int (nI k))] [] M z 0 0 (TrQ none M a lo (ft) f n h sv len g z) := by
  obtain ⟨ho, hF, -, hH, hS, ⟨sc, pl, gr, ti, lv, od, bk, hP⟩, ⟨O, Rq, rc, Cq, hAr⟩, l1, l2⟩ := id hC
  obtain ⟨Rt, lnt, sgt, hAt, hRelt⟩ := id hFt0
  refine g_iload_3 dX7_simulateTurn_10 ?_
  refine g_bipush (v := nI 13) dX7_simulateTurn_11 rfl ?_
  refine g_icmp_gtN (tgt := 33) dX7_simulateTurn_13 (by decide) (by omega) (by omega) (fun _ => ?_) (fun h13 => absurd h13 (by omega))
  refine g_iload_3 dX7_simulateTurn_33 ?_
  refine g_bipush (v := nI 16) dX7_simulateTurn_34 rfl ?_
  refine g_icmp_gtN (tgt := 55) dX7_simulateTurn_36 (by decide) (by omega) (by omega) (fun _ => ?_) (fun h36 => absurd h36 (by omega))
  refine g_iload_3 dX7_simulateTurn_55 ?_
  refine g_bipush (v := nI 19) dX7_simulateTurn_56 rfl ?_
  refine g_icmp_gtN (tgt := 72) dX7_simulateTurn_58 (by decide) (by omega) (by omega) (fun _ => ?_) (fun h58 => absurd h58 (by omega))
  refine g_iload_3 dX7_simulateTurn_72 ?_
  refine g_bipush (v := nI 22) dX7_simulateTurn_73 rfl ?_
  refine g_icmp_gtN (tgt := 89) dX7_simulateTurn_75 (by decide) (by omega) (by omega) (fun _ => ?_) (fun h75 => absurd h75 (by omega))
  refine g_iload_3 dX7_simulateTurn_89 ?_
  refine g_bipush (v := nI 25) dX7_simulateTurn_90 rfl ?_
  refine g_icmp_gtN (tgt := 109) dX7_simulateTurn_92 (by decide) (by omega) (by omega) (fun _ => ?_) (fun h92 => absurd h92 (by omega))
  refine g_iload_3 dX7_simulateTurn_109 ?_
  refine g_bipush (v := nI 26) dX7_simulateTurn_110 rfl ?_
  refine g_icmp_neN (tgt := 132) dX7_simulateTurn_112 (by decide) (by omega) (by omega) (fun _ => ?_) (fun h112 => absurd h112 (by omega))
  refine g_iload_3 dX7_simulateTurn_132 ?_
  refine g_bipush (v := nI 27) dX7_simulateTurn_133 rfl ?_
  refine g_icmp_neN (tgt := 149) dX7_simulateTurn_135 (by decide) (by omega) (by omega) (fun _ => ?_) (fun h135 => absurd h135 (by omega))
  refine g_iload_3 dX7_simulateTurn_149 ?_
  refine g_bipush (v := nI 28) dX7_simulateTurn_150 rfl ?_
  refine g_icmp_neN (tgt := 171) dX7_simulateTurn_152 (by decide) (by omega) (by omega) (fun _ => ?_) (fun h152 => absurd h152 (by omega))
  refine g_iload_3 dX7_simulateTurn_171 ?_
  refine g_bipush (v := nI 29) dX7_simulateTurn_172 rfl ?_
  refine g_icmp_neN (tgt := 192) dX7_simulateTurn_174 (by decide) (by omega) (by omega) (fun _ => ?_) (fun h174 => absurd h174 (by omega))
  refine g_iload_3 dX7_simulateTurn_192 ?_
  refine g_bipush (v := nI 30) dX7_simulateTurn_193 rfl ?_
  refine g_icmp_neN (tgt := 225) dX7_simulateTurn_195 (by decide) (by omega) (by omega) (fun h195 => absurd h195 (by omega)) (fun _ => ?_)
  refine g_iload_2 dX7_simulateTurn_198 ?_
  refine g_bipush (v := nI 9) dX7_simulateTurn_199 rfl ?_
  refine g_idivN dX7_simulateTurn_201 (by omega) (by omega) (by omega) ?_
  refine g_bipush (v := nI 8) dX7_simulateTurn_202 rfl ?_
  refine g_iremN dX7_simulateTurn_204 (by omega) (by omega) (by omega) ?_
  refine g_if_neN (tgt := 225) dX7_simulateTurn_205 (by decide) (by omega) (fun _ => ?_) (fun h205 => absurd h205 h8)
  refine g_iload_3 dX7_simulateTurn_225 ?_
  refine g_bipush (v := nI 31) dX7_simulateTurn_226 rfl ?_
  refine g_icmp_neN (tgt := 253) dX7_simulateTurn_228 (by decide) (by omega) (by omega) (fun _ => ?_) (fun h228 => absurd h228 (by omega))
  exact g_return rfl dX7_simulateTurn_253 (Nat.le_of_ble_eq_true rfl) (Nat.le_of_ble_eq_true rfl) ⟨rfl, hFt0, hC, CFr.rf⟩
theorem q_sim_m1 (hC : CInv M a lo z f n h sv len g) (hFt0 : RugF M (a + 21) ft) (hIt : Rng ft) (hq : q < 2 ^ 27) (hk : k < 32) (h9 : k = 31) (hT : TxtsOK T Ln) (hX : TxF ft T Ln) (hl : 0 < Ln (q % 4)) : WP mX7_simulateTurn 10 [some (.ref a), some (.int (nI r)), some (.int (nI q)), some (.int (nI k))] [] M z 0 0 (TrQ none M a lo ((prun T Ln 4001 ft [(q % 4, 0, 0, 0)] 0 0).1) f n h sv len g z) := by
  obtain ⟨ho, hF, -, hH, hS, ⟨sc, pl, gr, ti, lv, od, bk, hP⟩, ⟨O, Rq, rc, Cq, hAr⟩, l1, l2⟩ := id hC
  obtain ⟨Rt, lnt, sgt, hAt, hRelt⟩ := id hFt0
  refine g_iload_3 dX7_simulateTurn_10 ?_
  refine g_bipush (v := nI 13) dX7_simulateTurn_11 rfl ?_
  refine g_icmp_gtN (tgt := 33) dX7_simulateTurn_13 (by decide) (by omega) (by omega) (fun _ => ?_) (fun h13 => absurd h13 (by omega))
  refine g_iload_3 dX7_simulateTurn_33 ?_
  refine g_bipush (v := nI 16) dX7_simulateTurn_34 rfl ?_
  refine g_icmp_gtN (tgt := 55) dX7_simulateTurn_36 (by decide) (by omega) (by omega) (fun _ => ?_) (fun h36 => absurd h36 (by omega))
  refine g_iload_3 dX7_simulateTurn_55 ?_
  refine g_bipush (v := nI 19) dX7_simulateTurn_56 rfl ?_
  refine g_icmp_gtN (tgt := 72) dX7_simulateTurn_58 (by decide) (by omega) (by omega) (fun _ => ?_) (fun h58 => absurd h58 (by omega))
  refine g_iload_3 dX7_simulateTurn_72 ?_
  refine g_bipush (v := nI 22) dX7_simulateTurn_73 rfl ?_
  refine g_icmp_gtN (tgt := 89) dX7_simulateTurn_75 (by decide) (by omega) (by omega) (fun _ => ?_) (fun h75 => absurd h75 (by omega))
  refine g_iload_3 dX7_simulateTurn_89 ?_
  refine g_bipush (v := nI 25) dX7_simulateTurn_90 rfl ?_
  refine g_icmp_gtN (tgt := 109) dX7_simulateTurn_92 (by decide) (by omega) (by omega) (fun _ => ?_) (fun h92 => absurd h92 (by omega))
  refine g_iload_3 dX7_simulateTurn_109 ?_
  refine g_bipush (v := nI 26) dX7_simulateTurn_110 rfl ?_
  refine g_icmp_neN (tgt := 132) dX7_simulateTurn_112 (by decide) (by omega) (by omega) (fun _ => ?_) (fun h112 => absurd h112 (by omega))
  refine g_iload_3 dX7_simulateTurn_132 ?_
  refine g_bipush (v := nI 27) dX7_simulateTurn_133 rfl ?_
  refine g_icmp_neN (tgt := 149) dX7_simulateTurn_135 (by decide) (by omega) (by omega) (fun _ => ?_) (fun h135 => absurd h135 (by omega))
  refine g_iload_3 dX7_simulateTurn_149 ?_
  refine g_bipush (v := nI 28) dX7_simulateTurn_150 rfl ?_
  refine g_icmp_neN (tgt := 171) dX7_simulateTurn_152 (by decide) (by omega) (by omega) (fun _ => ?_) (fun h152 => absurd h152 (by omega))
  refine g_iload_3 dX7_simulateTurn_171 ?_
  refine g_bipush (v := nI 29) dX7_simulateTurn_172 rfl ?_
  refine g_icmp_neN (tgt := 192) dX7_simulateTurn_174 (by decide) (by omega) (by omega) (fun _ => ?_) (fun h174 => absurd h174 (by omega))
  refine g_iload_3 dX7_simulateTurn_192 ?_
  refine g_bipush (v := nI 30) dX7_simulateTurn_193 rfl ?_
  refine g_icmp_neN (tgt := 225) dX7_simulateTurn_195 (by decide) (by omega) (by omega) (fun _ => ?_) (fun h195 => absurd h195 (by omega))
  refine g_iload_3 dX7_simulateTurn_225 ?_
  refine g_bipush (v := nI 31) dX7_simulateTurn_226 rfl ?_
  refine g_icmp_neN (tgt := 253) dX7_simulateTurn_228 (by decide) (by omega) (by omega) (fun h228 => absurd h228 (by omega)) (fun _ => ?_)
  refine g_aload_0 dX7_simulateTurn_231 ?_
  refine g_get dX7_simulateTurn_232 (fX7_40 rfl) ho rfl ?_
  refine g_aload_0 dX7_simulateTurn_235 ?_
  refine g_get dX7_simulateTurn_236 (fX7_16 rfl) ho rfl ?_
  refine g_aload_0 dX7_simulateTurn_239 ?_
  refine g_get dX7_simulateTurn_240 (fX7_16 rfl) ho rfl ?_
  refine g_iload_2 dX7_simulateTurn_243 ?_
  refine g_iconst (v := nI 4) dX7_simulateTurn_244 rfl ?_
  refine g_iremN dX7_simulateTurn_245 (by omega) (by omega) (by omega) ?_
  refine g_v1_1 dX7_simulateTurn_246 (vX7_180 rfl) rfl hAt.1 (Nat.le_of_ble_eq_true rfl) ⟨rfl, rfl⟩ (Nat.le_of_ble_eq_true rfl) (Nat.le_of_ble_eq_true rfl) (q_motifAt1 hFt0 (by omega) (hX (q % 4) (by omega)).1 (hT (q % 4) (by omega)).1 hl) ?_
  refine g_v2 dX7_simulateTurn_249 (vX7_273 rfl) rfl hP.1 (Nat.le_of_ble_eq_true rfl) (Nat.le_of_ble_eq_true rfl) (Nat.le_of_ble_eq_true rfl) (q_playS hP (by omega) hFt0 hIt hX hT (by omega)) (fun r3 M2 z2 hq3 => ?_) (fun E M2 z2 hq => by obtain ⟨hq, -⟩ := hq; cases hq)
  obtain ⟨hr3, hF3, hP3, hO3, hz3⟩ := hq3
  cases hr3
  subst hz3
  refine g_pop dX7_simulateTurn_252 rfl ?_
  exact g_return rfl dX7_simulateTurn_253 (Nat.le_of_ble_eq_true rfl) (Nat.le_of_ble_eq_true rfl) ⟨rfl, hF3, hC.playT hO3 hF3 hP3, CFr.pl hO3 (by omega) (by omega)⟩
theorem q_sim_m0 (hC : CInv M a lo z f n h sv len g) (hFt0 : RugF M (a + 21) ft) (hIt : Rng ft) (hq : q < 2 ^ 27) (hk : k < 32) (h9 : k = 31) (hT : TxtsOK T Ln) (hX : TxF ft T Ln) (hl : Ln (q % 4) = 0) : WP mX7_simulateTurn 10 [some (.ref a), some (.int (nI r)), some (.int (nI q)), some (.int (nI k))] [] M z 0 0 (TrQ none M a lo (ft) f n h sv len g z) := by
  obtain ⟨ho, hF, -, hH, hS, ⟨sc, pl, gr, ti, lv, od, bk, hP⟩, ⟨O, Rq, rc, Cq, hAr⟩, l1, l2⟩ := id hC
  obtain ⟨Rt, lnt, sgt, hAt, hRelt⟩ := id hFt0
  refine g_iload_3 dX7_simulateTurn_10 ?_
  refine g_bipush (v := nI 13) dX7_simulateTurn_11 rfl ?_
  refine g_icmp_gtN (tgt := 33) dX7_simulateTurn_13 (by decide) (by omega) (by omega) (fun _ => ?_) (fun h13 => absurd h13 (by omega))
  refine g_iload_3 dX7_simulateTurn_33 ?_
  refine g_bipush (v := nI 16) dX7_simulateTurn_34 rfl ?_
  refine g_icmp_gtN (tgt := 55) dX7_simulateTurn_36 (by decide) (by omega) (by omega) (fun _ => ?_) (fun h36 => absurd h36 (by omega))
  refine g_iload_3 dX7_simulateTurn_55 ?_
  refine g_bipush (v := nI 19) dX7_simulateTurn_56 rfl ?_
  refine g_icmp_gtN (tgt := 72) dX7_simulateTurn_58 (by decide) (by omega) (by omega) (fun _ => ?_) (fun h58 => absurd h58 (by omega))
  refine g_iload_3 dX7_simulateTurn_72 ?_
  refine g_bipush (v := nI 22) dX7_simulateTurn_73 rfl ?_
  refine g_icmp_gtN (tgt := 89) dX7_simulateTurn_75 (by decide) (by omega) (by omega) (fun _ => ?_) (fun h75 => absurd h75 (by omega))
  refine g_iload_3 dX7_simulateTurn_89 ?_
  refine g_bipush (v := nI 25) dX7_simulateTurn_90 rfl ?_
  refine g_icmp_gtN (tgt := 109) dX7_simulateTurn_92 (by decide) (by omega) (by omega) (fun _ => ?_) (fun h92 => absurd h92 (by omega))
  refine g_iload_3 dX7_simulateTurn_109 ?_
  refine g_bipush (v := nI 26) dX7_simulateTurn_110 rfl ?_
  refine g_icmp_neN (tgt := 132) dX7_simulateTurn_112 (by decide) (by omega) (by omega) (fun _ => ?_) (fun h112 => absurd h112 (by omega))
  refine g_iload_3 dX7_simulateTurn_132 ?_
  refine g_bipush (v := nI 27) dX7_simulateTurn_133 rfl ?_
  refine g_icmp_neN (tgt := 149) dX7_simulateTurn_135 (by decide) (by omega) (by omega) (fun _ => ?_) (fun h135 => absurd h135 (by omega))
  refine g_iload_3 dX7_simulateTurn_149 ?_
  refine g_bipush (v := nI 28) dX7_simulateTurn_150 rfl ?_
  refine g_icmp_neN (tgt := 171) dX7_simulateTurn_152 (by decide) (by omega) (by omega) (fun _ => ?_) (fun h152 => absurd h152 (by omega))
  refine g_iload_3 dX7_simulateTurn_171 ?_
  refine g_bipush (v := nI 29) dX7_simulateTurn_172 rfl ?_
  refine g_icmp_neN (tgt := 192) dX7_simulateTurn_174 (by decide) (by omega) (by omega) (fun _ => ?_) (fun h174 => absurd h174 (by omega))
  refine g_iload_3 dX7_simulateTurn_192 ?_
  refine g_bipush (v := nI 30) dX7_simulateTurn_193 rfl ?_
  refine g_icmp_neN (tgt := 225) dX7_simulateTurn_195 (by decide) (by omega) (by omega) (fun _ => ?_) (fun h195 => absurd h195 (by omega))
  refine g_iload_3 dX7_simulateTurn_225 ?_
  refine g_bipush (v := nI 31) dX7_simulateTurn_226 rfl ?_
  refine g_icmp_neN (tgt := 253) dX7_simulateTurn_228 (by decide) (by omega) (by omega) (fun h228 => absurd h228 (by omega)) (fun _ => ?_)
  refine g_aload_0 dX7_simulateTurn_231 ?_
  refine g_get dX7_simulateTurn_232 (fX7_40 rfl) ho rfl ?_
  refine g_aload_0 dX7_simulateTurn_235 ?_
  refine g_get dX7_simulateTurn_236 (fX7_16 rfl) ho rfl ?_
  refine g_aload_0 dX7_simulateTurn_239 ?_
  refine g_get dX7_simulateTurn_240 (fX7_16 rfl) ho rfl ?_
  refine g_iload_2 dX7_simulateTurn_243 ?_
  refine g_iconst (v := nI 4) dX7_simulateTurn_244 rfl ?_
  refine g_iremN dX7_simulateTurn_245 (by omega) (by omega) (by omega) ?_
  refine g_v1_1 dX7_simulateTurn_246 (vX7_180 rfl) rfl hAt.1 (Nat.le_of_ble_eq_true rfl) ⟨rfl, rfl⟩ (Nat.le_of_ble_eq_true rfl) (Nat.le_of_ble_eq_true rfl) (q_motifAt0 hFt0 (by omega) (hX (q % 4) (by omega)).1 (hT (q % 4) (by omega)).1 hl) ?_
  refine g_v2 dX7_simulateTurn_249 (vX7_273 rfl) rfl hP.1 (Nat.le_of_ble_eq_true rfl) (Nat.le_of_ble_eq_true rfl) (Nat.le_of_ble_eq_true rfl) (q_playN hP (by omega) hFt0) (fun r3 M2 z2 hq3 => ?_) (fun E M2 z2 hq => by obtain ⟨hq, -⟩ := hq; cases hq)
  obtain ⟨hr3, hF3, hP3, hO3, hz3⟩ := hq3
  cases hr3
  subst hz3
  refine g_pop dX7_simulateTurn_252 rfl ?_
  exact g_return rfl dX7_simulateTurn_253 (Nat.le_of_ble_eq_true rfl) (Nat.le_of_ble_eq_true rfl) ⟨rfl, hF3, hC.playT hO3 hF3 hP3, CFr.pl hO3 (by omega) (by omega)⟩
theorem q_sim10 (hC : CInv M a lo z f n h sv len g) (hFt0 : RugF M (a + 21) ft) (hIt : Rng ft) (hq : q < 2 ^ 27) (hk : k < 32) (hT : TxtsOK T Ln) (hX : TxF ft T Ln) : WP mX7_simulateTurn 10 [some (.ref a), some (.int (nI r)), some (.int (nI q)), some (.int (nI k))] [] M z 0 0 (TrQ none M a lo (f_sim T Ln ft q k) f n h sv len g z) := by
  unfold f_sim
  by_cases h1 : k < 14
  · rw [if_pos h1]; exact q_sim_sew hC hFt0 hIt hq hk h1
  rw [if_neg h1]
  by_cases h2 : k < 17
  · rw [if_pos h2]; exact q_sim_jump hC hFt0 hIt hq hk ⟨by omega, h2⟩
  rw [if_neg h2]
  by_cases h3 : k < 20
  · rw [if_pos h3]; exact q_sim_l hC hFt0 hIt hq hk ⟨by omega, h3⟩
  rw [if_neg h3]
  by_cases h4 : k < 23
  · rw [if_pos h4]; exact q_sim_r hC hFt0 hIt hq hk ⟨by omega, h4⟩
  rw [if_neg h4]
  by_cases h5 : k < 26
  · rw [if_pos h5]
    by_cases hc : ft (432 + 5 * (q % 5)) < nI 20
    · rw [if_pos hc]; exact q_sim_t0 hC hFt0 hIt hq hk ⟨by omega, h5⟩ (Int32.not_le.mpr hc)
    · rw [if_neg hc]; exact q_sim_t1 hC hFt0 hIt hq hk ⟨by omega, h5⟩ (Int32.not_lt.mp hc)
  rw [if_neg h5]
  by_cases h6 : k = 26
  · rw [if_pos h6]
    by_cases h4 : q % 4 = 0
    · by_cases hc : 0 < tno ft
      · rw [if_pos ⟨hc, h4⟩]; exact q_sim_c1 hC hFt0 hIt hq hk h6 h4 hc
      · rw [if_neg (fun w => hc w.1)]; exact q_sim_c0 hC hFt0 hIt hq hk h6 h4 hc
    · rw [if_neg (fun w => h4 w.2)]; exact q_sim_cx hC hFt0 hIt hq hk h6 h4
  rw [if_neg h6]
  by_cases h7 : k = 27
  · rw [if_pos h7]
    by_cases hc : 0 < tno ft
    · rw [if_pos hc]; exact q_sim_e1 hC hFt0 hIt hq hk h7 hc
    · rw [if_neg hc]; exact q_sim_e0 hC hFt0 hIt hq hk h7 hc
  rw [if_neg h7]
  by_cases h8 : k = 28
  · rw [if_pos h8]; exact q_sim_h hC hFt0 hIt hq hk h8
  rw [if_neg h8]
  by_cases h9 : k = 29
  · rw [if_pos h9]
    by_cases hc : hasL (ft (144 + q % 144)) = true
    · rw [if_pos hc]; exact q_sim_u1 hC hFt0 hIt hq hk h9 hc
    · rw [if_neg hc]; exact q_sim_u0 hC hFt0 hIt hq hk h9 hc
  rw [if_neg h9]
  by_cases h10 : k = 30
  · rw [if_pos h10]
    by_cases hc : q / 9 % 8 = 0
    · rw [if_pos hc]; exact q_sim_s1 hC hFt0 hIt hq hk h10 hc
    · rw [if_neg hc]; exact q_sim_sx hC hFt0 hIt hq hk h10 hc
  rw [if_neg h10]
  by_cases hc : Ln (q % 4) = 0
  · rw [if_pos hc]; exact q_sim_m0 hC hFt0 hIt hq hk (by omega) hT hX hc
  · rw [if_neg hc]; exact q_sim_m1 hC hFt0 hIt hq hk (by omega) hT hX (by omega)
theorem q_simTurn (hC : CInv M a lo z f n h sv len g) (hFt0 : RugF M (a + 21) ft) (hIt : Rng ft) (hr : r < 2 ^ 31) (hT : TxtsOK T Ln) (hX : TxF ft T Ln) : Runs mX7_simulateTurn [.ref a, .int (nI r)] M z (TrQ none M a lo (f_sim T Ln ft (r / 32) (r % 32)) f n h sv len g z) := by
  have hkk := q_sim10 (r := r) (q := r / 32) (k := r % 32) hC hFt0 hIt (by omega) (by omega) hT hX
  refine runs_of plX7 rfl (Nat.le_of_ble_eq_true rfl) ?_
  show WP mX7_simulateTurn 0 [some (.ref a), some (.int (nI r)), none, none] [] M z 0 0 _
  refine g_iload_1 dX7_simulateTurn_0 ?_
  refine g_bipush (v := nI 32) dX7_simulateTurn_1 rfl ?_
  refine g_idivN dX7_simulateTurn_3 (by omega) (by omega) (by omega) ?_
  refine g_istore_2 rfl dX7_simulateTurn_4 ?_
  refine g_iload_1 dX7_simulateTurn_5 ?_
  refine g_bipush (v := nI 32) dX7_simulateTurn_6 rfl ?_
  refine g_iremN dX7_simulateTurn_8 (by omega) (by omega) (by omega) ?_
  refine g_istore_3 rfl dX7_simulateTurn_9 ?_
  exact hkk
def lcg (x : Int64) : Int64 := x * 6364136223846793005 + 1442695040888963407
def lcr (x : Int64) : Nat := x.toUInt64.toNat / 2 ^ 33
theorem lcr_lt (x : Int64) : lcr x < 2 ^ 31 := by
  unfold lcr
  have := x.toUInt64.toNat_lt
  omega
theorem lcr_eq (x : Int64) : ((x.toUInt64 >>> ((nI 33).toInt64.toUInt64 &&& Int64.toUInt64 63)).toInt64).toInt32 = nI (lcr x) := by
  have e1 : ((nI 33).toInt64.toUInt64 &&& Int64.toUInt64 63) = 33 := by decide
  rw [e1]
  have h1 := lcr_lt x
  have h2 : (x.toUInt64 >>> 33).toNat = lcr x := by
    rw [UInt64.toNat_shiftRight]
    show x.toUInt64.toNat >>> (33 % 64) = _
    rw [Nat.shiftRight_eq_div_pow]
    rfl
  generalize x.toUInt64 >>> 33 = u at h2
  have h3 : u.toInt64.toInt = (lcr x : Int) := by
    rw [← h2]
    have : u.toNat < 2 ^ 63 := by omega
    show u.toBitVec.toInt = _
    rw [BitVec.toInt_eq_toNat_of_lt (by show 2 * u.toNat < 2 ^ 64; omega)]
    rfl
  apply Int32.toInt_inj.mp
  rw [nI_toInt (by omega), Int64.toInt_toInt32, h3]
  exact Int.bmod_eq_of_le (by omega) (by omega)
def f_simN (T : Nat → Nat → Nat) (Ln : Nat → Nat) : Nat → Int64 → Row → Row
  | 0, _, f => f
  | k + 1, x, f => f_simN T Ln k (lcg x) (f_sim T Ln f (lcr (lcg x) / 32) (lcr (lcg x) % 32))
theorem f_simN_s : f_simN T Ln (k + 1) xl f = f_simN T Ln k (lcg xl) (f_sim T Ln f (lcr (lcg xl) / 32) (lcr (lcg xl) % 32)) := by
  conv => lhs; unfold f_simN
theorem simN_ok (hT : TxtsOK T Ln) : ∀ (k : Nat) (x : Int64) (f : Row), Rng f → Rng (f_simN T Ln k x f)
  | 0, _, _, h => h
  | k + 1, x, f, h => by
    rw [f_simN_s]
    exact simN_ok hT k _ _ (sim_ok hT h).1
def simV (ft : Row) : Int32 := nI (1000 * cnt (fun i => hasL (ft (144 + i))) 144 + 10 * (cnt (fun i => decide (ft (144 + i) = nI 6)) 144 % 100)) + ft 458
theorem q_sim58 {z0 : Nat} {w9 xl : Int64} {l6 : Option Value} {k1 n1 : Nat} (hk1 : k1 ≤ gce mX7_simulate) (hn1 : n1 ≤ gsl mX7_simulate) (hC : CInv M a lo z f n h sv len g) (hX0 : CFr M0 M a lo z0 z) (hFt0 : RugF M (a + 21) ft) (hIt : Rng ft) : WP mX7_simulate 58 [some (.ref a), some (.long w9), none, some (.int (nI m)), some (.long xl), none, l6] [] M z k1 n1 (CQ (some (.int (simV ft))) M0 a lo f n h sv len g z0) := by
  have hcs := cnt_le (fun i => decide (ft (144 + i) = nI 6)) 144
  obtain ⟨ho, hF, -, hH, hS, ⟨sc, pl, gr, ti, lv, od, bk, hP⟩, ⟨O, Rq, rc, Cq, hAr⟩, l1, l2⟩ := id hC
  obtain ⟨Rt, lnt, sgt, hAt, hRelt⟩ := id hFt0
  refine g_sipush (v := nI 1000) dX7_simulate_58 rfl ?_
  refine g_aload_0 dX7_simulate_61 ?_
  refine g_get dX7_simulate_62 (fX7_16 rfl) ho rfl ?_
  refine g_get dX7_simulate_65 (fX7_78 rfl) hAt.1 rfl ?_
  refine g_v0_1 dX7_simulate_68 (vX7_104 rfl) rfl hAt.2.1.1 (Nat.le_of_ble_eq_true rfl) ⟨rfl, rfl⟩ hk1 hn1 (c_countLoops hAt.2.1) ?_
  rw [hRelt.cR hIt]
  refine g_imulN dX7_simulate_71 ?_
  refine g_bipush (v := nI 10) dX7_simulate_72 rfl ?_
  refine g_aload_0 dX7_simulate_74 ?_
  refine g_get dX7_simulate_75 (fX7_16 rfl) ho rfl ?_
  refine g_get dX7_simulate_78 (fX7_78 rfl) hAt.1 rfl ?_
  refine g_v0_1 dX7_simulate_81 (vX7_107 rfl) rfl hAt.2.1.1 (Nat.le_of_ble_eq_true rfl) ⟨rfl, rfl⟩ hk1 hn1 (c_countSkipped hAt.2.1) ?_
  rw [hRelt.cSkip hIt]
  refine g_bipush (v := nI 100) dX7_simulate_84 rfl ?_
  refine g_iremN dX7_simulate_86 (by omega) (by omega) (by omega) ?_
  refine g_imulN dX7_simulate_87 ?_
  refine g_iaddN dX7_simulate_88 ?_
  refine g_aload_0 dX7_simulate_89 ?_
  refine g_get dX7_simulate_90 (fX7_16 rfl) ho rfl ?_
  refine g_get dX7_simulate_93 (fX7_127 rfl) hAt.1 rfl ?_
  rw [hRelt.2.2.2.2.1.2.1]
  refine g_iadd dX7_simulate_96 ?_
  exact g_ireturn rfl rfl dX7_simulate_97 hk1 hn1 ⟨rfl, hC, hX0⟩
theorem q_sim24 {w9 : Int64} {z0 : Nat} {k1 n1 : Nat} (hk1 : k1 ≤ gce mX7_simulate) (hn1 : n1 ≤ gsl mX7_simulate) (hm : m ≤ 60) (hT : TxtsOK T Ln) : ∀ d i {M : Hp} {z : Nat} {xl : Int64} {ft : Row}, i + d = m → CInv M a lo z f n h sv len g → CFr M0 M a lo z0 z → RugF M (a + 21) ft → Rng ft → TxF ft T Ln → WP mX7_simulate 24 [some (.ref a), some (.long w9), none, some (.int (nI m)), some (.long xl), none, some (.int (nI i))] [] M z k1 n1 (CQ (some (.int (simV (f_simN T Ln d xl ft)))) M0 a lo f n h sv len g z0) := by
  intro d
  induction d with
  | zero =>
    intro i M z xl ft hi hC hX0 hFt0 hIt hX
    obtain rfl : i = m := by omega
    refine g_iload_6 dX7_simulate_24 ?_
    refine g_iload_3 dX7_simulate_26 ?_
    refine g_icmp_geN (tgt := 58) dX7_simulate_27 (by decide) (by omega) (by omega) (fun _ => ?_) (fun h27 => absurd h27 (by omega))
    exact q_sim58 hk1 hn1 hC hX0 hFt0 hIt
  | succ d ih =>
    intro i M z xl ft hi hC hX0 hFt0 hIt hX
    rw [f_simN_s]
    obtain ⟨ho, hF, -, hH, hS, ⟨sc, pl, gr, ti, lv, od, bk, hP⟩, ⟨O, Rq, rc, Cq, hAr⟩, l1, l2⟩ := id hC
    obtain ⟨Rt, lnt, sgt, hAt, hRelt⟩ := id hFt0
    refine g_iload_6 dX7_simulate_24 ?_
    refine g_iload_3 dX7_simulate_26 ?_
    refine g_icmp_geN (tgt := 58) dX7_simulate_27 (by decide) (by omega) (by omega) (fun h27 => absurd h27 (by omega)) (fun _ => ?_)
    refine g_lload_4 dX7_simulate_30 ?_
    refine g_ldc2 dX7_simulate_32 (zX7_297 rfl) ?_
    refine g_lmul dX7_simulate_35 ?_
    refine g_ldc2 dX7_simulate_36 (zX7_299 rfl) ?_
    refine g_ladd dX7_simulate_39 ?_
    rw [show xl * 6364136223846793005 + 1442695040888963407 = lcg xl from rfl]
    refine g_lstore_4 rfl dX7_simulate_40 ?_
    refine g_aload_0 dX7_simulate_42 ?_
    refine g_lload_4 dX7_simulate_43 ?_
    refine g_bipush (v := nI 33) dX7_simulate_45 rfl ?_
    refine g_lushr dX7_simulate_47 ?_
    refine g_l2i dX7_simulate_48 ?_
    rw [lcr_eq]
    refine g_v1 dX7_simulate_49 (vX7_301 rfl) rfl ho (Nat.le_of_ble_eq_true rfl) (by first | exact hk1 | (show k1 + 0 ≤ _; exact hk1)) (by first | exact hn1 | (show n1 + 0 ≤ _; exact hn1)) (q_simTurn hC hFt0 hIt (lcr_lt _) hT hX) (fun r M2 z2 hq => ?_) (fun E M2 z2 hq => by obtain ⟨hq, -⟩ := hq; cases hq)
    obtain ⟨hr, hF2, hC2, hX2⟩ := hq
    cases hr
    refine g_iincN_6 (q := 1) rfl dX7_simulate_52 rfl ?_
    refine g_goto (tgt := 24) dX7_simulate_55 (by decide) ?_
    exact ih (i + 1) (by omega) hC2 (hX0.tr hX2) hF2 (sim_ok hT hIt).1 (hX.keep hT (sim_ok hT hIt).2.1)
theorem c_simulate (hC : CInv M a lo z f n h sv len g) (ft' : Row) (he : Eq9 f ft') (hIt : Rng ft') (h1 : 1 ≤ m) (h2 : m ≤ 60) (hT : TxtsOK T Ln) (hX : TxF ft' T Ln) : Runs mX7_simulate [.ref a, .long xl, .int (nI m)] M z (CQ (some (.int (simV (f_simN T Ln m xl ft')))) M a lo f n h sv len g z) := by
  obtain ⟨ho, hF, ⟨ft, hFt⟩, hH, hS, ⟨sc, pl, gr, ti, lv, od, bk, hP⟩, ⟨O, Rq, rc, Cq, hAr⟩, l1, l2⟩ := id hC
  obtain ⟨R, ln, sg, hA, hRel⟩ := id hF
  obtain ⟨r0, r1, r2, ⟨k3, k4, k5, k6, k7⟩, ⟨s0, s1, s2, s3, s4, s5⟩, m1, m2, m3⟩ := id hRel
  obtain ⟨Rt0, lnt0, sgt0, hAt0, hRelt0⟩ := id hFt
  refine runs_of plX7 rfl (Nat.le_of_ble_eq_true rfl) ?_
  show WP mX7_simulate 0 [some (.ref a), some (.long xl), none, some (.int (nI m)), none, none, none] [] M z 0 0 _
  refine g_iload_3 dX7_simulate_0 ?_
  refine g_iconst (v := nI 1) dX7_simulate_1 rfl ?_
  refine g_bipush (v := nI 60) dX7_simulate_2 rfl ?_
  refine g_s3_0r dX7_simulate_4 (sX7_51 rfl) rfl (Nat.le_of_ble_eq_true rfl) (Nat.le_of_ble_eq_true rfl) (Nat.le_of_ble_eq_true rfl) (c_needRange_ok (nI_nlt (by omega) (by omega)) (nI_le (by omega) (by decide))) ?_
  refine g_aload_0 dX7_simulate_7 ?_
  refine g_get dX7_simulate_8 (fX7_16 rfl) ho rfl ?_
  refine g_aload_0 dX7_simulate_11 ?_
  refine g_get dX7_simulate_12 (fX7_12 rfl) ho rfl ?_
  refine g_v1 dX7_simulate_15 (vX7_285 rfl) rfl hAt0.1 (Nat.le_of_ble_eq_true rfl) (Nat.le_of_ble_eq_true rfl) (Nat.le_of_ble_eq_true rfl) (q_copyFrom hFt hF (by omega)) (fun r M2 z2 hq => ?_) (fun E M2 z2 hq => by obtain ⟨hq, -⟩ := hq; cases hq)
  obtain ⟨hr, hF2, hO2, hz2⟩ := hq
  cases hr
  have hX2 := CFr.of2 (a := a) (lo := lo) hO2 (by omega) (by omega) hz2
  subst hz2
  have hC2 := hC.trial hO2 hF2
  replace hF2 := hF2.cong he
  obtain ⟨ho, hF, ⟨ft, hFt⟩, hH, hS, ⟨sc, pl, gr, ti, lv, od, bk, hP⟩, ⟨O, Rq, rc, Cq, hAr⟩, l1, l2⟩ := id hC2
  obtain ⟨R, ln, sg, hA, hRel⟩ := id hF
  obtain ⟨r0, r1, r2, ⟨k3, k4, k5, k6, k7⟩, ⟨s0, s1, s2, s3, s4, s5⟩, m1, m2, m3⟩ := id hRel
  obtain ⟨Rt, lnt, sgt, hAt, hRelt⟩ := id hF2
  refine g_lload_1 dX7_simulate_18 ?_
  refine g_lstore_4 rfl dX7_simulate_19 ?_
  refine g_iconst (v := nI 0) dX7_simulate_21 rfl ?_
  refine g_istore_6 rfl dX7_simulate_22 ?_
  exact q_sim24 (Nat.le_of_ble_eq_true rfl) (Nat.le_of_ble_eq_true rfl) h2 hT m 0 (by omega) hC2 hX2 hF2 hIt hX
theorem c_simulate_x1 (hC : CInv M a lo z f n h sv len g) (hx : x < nI 1 ∨ nI 60 < x) : Runs mX7_simulate [.ref a, .long xl, .int x] M z (gE IAE M z) := by
  obtain ⟨ho, hF, ⟨ft, hFt⟩, hH, hS, ⟨sc, pl, gr, ti, lv, od, bk, hP⟩, ⟨O, Rq, rc, Cq, hAr⟩, l1, l2⟩ := id hC
  obtain ⟨R, ln, sg, hA, hRel⟩ := id hF
  obtain ⟨r0, r1, r2, ⟨k3, k4, k5, k6, k7⟩, ⟨s0, s1, s2, s3, s4, s5⟩, m1, m2, m3⟩ := id hRel
  refine runs_of plX7 rfl (Nat.le_of_ble_eq_true rfl) ?_
  show WP mX7_simulate 0 [some (.ref a), some (.long xl), none, some (.int x), none, none, none] [] M z 0 0 _
  refine g_iload_3 dX7_simulate_0 ?_
  refine g_iconst (v := nI 1) dX7_simulate_1 rfl ?_
  refine g_bipush (v := nI 60) dX7_simulate_2 rfl ?_
  refine g_s3_x dX7_simulate_4 (sX7_51 rfl) rfl (Nat.le_of_ble_eq_true rfl) (Nat.le_of_ble_eq_true rfl) (Nat.le_of_ble_eq_true rfl) (c_needRange_x hx) (fun z2 hz2 => ?_)
  exact x_out rfl (Nat.le_of_ble_eq_true rfl) (Nat.le_of_ble_eq_true rfl) ⟨rfl, rfl, hz2⟩
def svU (sv : Nat → Option Row) (s : Nat) (f : Row) : Nat → Option Row := fun k => if k = s then some f else sv k
theorem HInv.sav {M' : Hp} {z' old : Nat} {P' : Nat → Option Nat} {rows' : Nat → Row} {fm fs' : Nat → Option Nat} (hs : s < 2) (hHi' : HistAt M' (a + 42) old n fm) (hsl' : M' (a + 41) = some (aR 2 fs')) (hSl' : Slots M' lo z' P' rows') (hold : old < 14) (hn : n ≤ 14) (hfm : ∀ s, s < 14 → fm s = P' s) (hrow' : ∀ k, k < n → rows' ((old + k) % 14) = h k ∧ ∃ x, P' ((old + k) % 14) = some x) (hfs' : ∀ s, s < 2 → fs' s = P' (14 + s)) (hnew : rows' (14 + s) = f ∧ ∃ x, P' (14 + s) = some x) (hoth : ∀ k, k < 2 → k ≠ s → (sv k = none → P' (14 + k) = none) ∧ ∀ r, sv k = some r → rows' (14 + k) = r ∧ ∃ x, P' (14 + k) = some x) : HInv M' a lo z' n h (svU sv s f) := by
  refine ⟨old, P', rows', fm, fs', ⟨hHi', hsl'⟩, hSl', hold, hn, hfm, hrow', hfs', fun k hk => ?_⟩
  unfold svU
  by_cases e : k = s
  · subst e
    rw [if_pos rfl]
    refine ⟨fun e => (nomatch e), fun r e => ?_⟩
    cases e
    exact hnew
  · rw [if_neg e]
    exact hoth k hk e
theorem updR_lt {rows : Nat → Row} {P : Nat → Option Nat} {old : Nat} (hrow : ∀ k, k < n → rows ((old + k) % 14) = h k ∧ ∃ x, P ((old + k) % 14) = some x) : ∀ k, k < n → updR rows (14 + s) f ((old + k) % 14) = h k ∧ ∃ x, P ((old + k) % 14) = some x := fun k hk => by
  rw [updR_ne (by omega)]
  exact hrow k hk
theorem c_save1 (hC : CInv M a lo z f n h sv len g) (hI : Rng f) (hs : s < 2) {rs : Row} (hsv0 : sv s = some rs) : Runs mX7_save [.ref a, .int (nI s)] M z (CQ (some (.int (nI (cnt (fun i => hasL (f (144 + i))) 144)))) M a lo f n h (svU sv s f) len g z) := by
  obtain ⟨ho, hF, ⟨ft, hFt⟩, hH, hS, ⟨sc, pl, gr, ti, lv, od, bk, hP⟩, ⟨O, Rq, rc, Cq, hAr⟩, l1, l2⟩ := id hC
  obtain ⟨R, ln, sg, hA, hRel⟩ := id hF
  obtain ⟨r0, r1, r2, ⟨k3, k4, k5, k6, k7⟩, ⟨s0, s1, s2, s3, s4, s5⟩, m1, m2, m3⟩ := id hRel
  obtain ⟨old, P, rows, fm, fs, ⟨hHi, hsl⟩, hSl, hold, hn14, hfm, hrow, hfs, hsv⟩ := id hH
  obtain ⟨er, x, hx⟩ := (hsv s hs).2 rs hsv0
  obtain ⟨x1, x2, hxF, x4⟩ := hSl (14 + s) x (by omega) hx
  obtain ⟨_, hxo⟩ := hxF.ao
  have hfx : fs s = some x := (hfs s hs).trans hx
  refine runs_of plX7 rfl (Nat.le_of_ble_eq_true rfl) ?_
  show WP mX7_save 0 [some (.ref a), some (.int (nI s))] [] M z 0 0 _
  refine g_iload_1 dX7_save_0 ?_
  refine g_s1_0r dX7_save_1 (sX7_304 rfl) rfl (Nat.le_of_ble_eq_true rfl) (Nat.le_of_ble_eq_true rfl) (Nat.le_of_ble_eq_true rfl) (c_needSlot_ok hs) ?_
  refine g_aload_0 dX7_save_4 ?_
  refine g_get dX7_save_5 (fX7_19 rfl) ho rfl ?_
  refine g_iload_1 dX7_save_8 ?_
  refine g_aaldRN dX7_save_9 hsl hs (by decide) (by rw [hfx]) ?_
  refine g_ifnonnull (tgt := 26) dX7_save_10 (by decide) ?_
  refine g_aload_0 dX7_save_26 ?_
  refine g_get dX7_save_27 (fX7_19 rfl) ho rfl ?_
  refine g_iload_1 dX7_save_30 ?_
  refine g_aaldRN dX7_save_31 hsl hs (by decide) (by rw [hfx]) ?_
  refine g_aload_0 dX7_save_32 ?_
  refine g_get dX7_save_33 (fX7_12 rfl) ho rfl ?_
  refine g_v1 dX7_save_36 (vX7_285 rfl) rfl hxo (Nat.le_of_ble_eq_true rfl) (Nat.le_of_ble_eq_true rfl) (Nat.le_of_ble_eq_true rfl) (q_copyFrom hxF hF (by omega)) (fun r M2 z2 hq => ?_) (fun E M2 z2 hq => by obtain ⟨hq, -⟩ := hq; cases hq)
  obtain ⟨hr, hG, hO, hz3⟩ := hq
  cases hr
  subst hz3
  have hC2 := hC.hist (Nat.le_refl _) (fun q q1 q2 => hO q (by omega)) (HInv.sav hs ⟨(hO _ (by omega)).trans hHi.1, (hO _ (by omega)).trans hHi.2⟩ ((hO _ (by omega)).trans hsl) (hSl.put (i := 14 + s) (by omega) hx hO hG) hold hn14 hfm (updR_lt hrow) hfs ⟨updR_eq, x, hx⟩ (fun k hk hne => by rw [updR_ne (by omega)]; exact hsv k hk))
  have ho := (hO a (by omega)).trans ho
  have hA := hA.keep (M' := M2) (fun q _ _ => hO q (by omega))
  refine g_aload_0 dX7_save_39 ?_
  refine g_get dX7_save_40 (fX7_12 rfl) ho rfl ?_
  refine g_get dX7_save_43 (fX7_78 rfl) hA.1 rfl ?_
  refine g_v0_1 dX7_save_46 (vX7_104 rfl) rfl hA.2.1.1 (Nat.le_of_ble_eq_true rfl) ⟨rfl, rfl⟩ (Nat.le_of_ble_eq_true rfl) (Nat.le_of_ble_eq_true rfl) (c_countLoops hA.2.1) ?_
  rw [hRel.cR hI]
  exact g_ireturn rfl rfl dX7_save_49 (Nat.le_of_ble_eq_true rfl) (Nat.le_of_ble_eq_true rfl) ⟨rfl, hC2, Nat.le_refl _, fun q q1 q2 => hO q (by omega)⟩
theorem c_save0 (hC : CInv M a lo z f n h sv len g) (hI : Rng f) (hs : s < 2) (hsv0 : sv s = none) : Runs mX7_save [.ref a, .int (nI s)] M z (CQ (some (.int (nI (cnt (fun i => hasL (f (144 + i))) 144)))) M a lo f n h (svU sv s f) len g z) := by
  obtain ⟨ho, hF, ⟨ft, hFt⟩, hH, hS, ⟨sc, pl, gr, ti, lv, od, bk, hP⟩, ⟨O, Rq, rc, Cq, hAr⟩, l1, l2⟩ := id hC
  obtain ⟨R, ln, sg, hA, hRel⟩ := id hF
  obtain ⟨r0, r1, r2, ⟨k3, k4, k5, k6, k7⟩, ⟨s0, s1, s2, s3, s4, s5⟩, m1, m2, m3⟩ := id hRel
  obtain ⟨old, P, rows, fm, fs, ⟨hHi, hsl⟩, hSl, hold, hn14, hfm, hrow, hfs, hsv⟩ := id hH
  have hx := (hsv s hs).1 hsv0
  have hfx : fs s = none := (hfs s hs).trans hx
  refine runs_of plX7 rfl (Nat.le_of_ble_eq_true rfl) ?_
  show WP mX7_save 0 [some (.ref a), some (.int (nI s))] [] M z 0 0 _
  refine g_iload_1 dX7_save_0 ?_
  refine g_s1_0r dX7_save_1 (sX7_304 rfl) rfl (Nat.le_of_ble_eq_true rfl) (Nat.le_of_ble_eq_true rfl) (Nat.le_of_ble_eq_true rfl) (c_needSlot_ok hs) ?_
  refine g_aload_0 dX7_save_4 ?_
  refine g_get dX7_save_5 (fX7_19 rfl) ho rfl ?_
  refine g_iload_1 dX7_save_8 ?_
  refine g_aaldRN dX7_save_9 hsl hs (by decide) (by rw [hfx]) ?_
  refine g_ifnonnullN dX7_save_10 ?_
  refine g_aload_0 dX7_save_13 ?_
  refine g_get dX7_save_14 (fX7_19 rfl) ho rfl ?_
  refine g_iload_1 dX7_save_17 ?_
  refine g_newQ dX7_save_18 (nX7_9 rfl) (Nat.le_of_ble_eq_true rfl) (Nat.le_of_ble_eq_true rfl) (fun M1 hN1 n1 => ?_)
  have ho1 := (n1 _ (by omega)).trans ho
  have hsl1 := (n1 _ (by omega)).trans hsl
  refine g_dup dX7_save_21 rfl ?_
  refine g_i0 dX7_save_22 (iX7_11 rfl) rfl (Nat.le_of_ble_eq_true rfl) (Nat.le_of_ble_eq_true rfl) (Nat.le_of_ble_eq_true rfl) (q_rugInit hN1) (fun r M2 z2 hq => ?_) (fun E M2 z2 hq => by obtain ⟨hq, -⟩ := hq; cases hq)
  obtain ⟨hr9, hG, hO, hz3⟩ := hq
  cases hr9
  subst hz3
  obtain ⟨_, hgo⟩ := hG.ao
  have ho1 := (hO _ (by omega)).trans ho1
  have hsl1 := (hO _ (by omega)).trans hsl1
  refine g_aastQ (kd := 4) dX7_save_25 (by decide) hsl1 rfl hgo rfl hs (by decide) (fun M3 hsl3 n3 => ?_)
  have ho3 := (n3 _ (by omega)).trans ho1
  have hq3 : ∀ q, q < z → q ≠ a + 41 → M3 q = M q := fun q q1 q2 => (n3 q q2).trans ((hO q (by omega)).trans (n1 q (by omega)))
  have hG3 := hG.keep (M' := M3) (fun q _ _ => n3 q (by omega))
  have hF3 := hF.keep (M' := M3) (fun q _ _ => hq3 q (by omega) (by omega))
  obtain ⟨_, hgo3⟩ := hG3.ao
  have hS2 := (hSl.new (i := 14 + s) (g := f00) l2 (by omega) hx (fun b hb => (hO b hb).trans (n1 b (by omega))) hG).keep (M' := M3) (Nat.le_refl _) (fun b b1 b2 => n3 b (by omega))
  refine g_aload_0 dX7_save_26 ?_
  refine g_get dX7_save_27 (fX7_19 rfl) ho3 rfl ?_
  refine g_iload_1 dX7_save_30 ?_
  refine g_aaldRN dX7_save_31 hsl3 hs (by decide) (by simp only [va_up, if_pos]; rfl) ?_
  refine g_aload_0 dX7_save_32 ?_
  refine g_get dX7_save_33 (fX7_12 rfl) ho3 rfl ?_
  refine g_v1 dX7_save_36 (vX7_285 rfl) rfl hgo3 (Nat.le_of_ble_eq_true rfl) (Nat.le_of_ble_eq_true rfl) (Nat.le_of_ble_eq_true rfl) (q_copyFrom hG3 hF3 (by omega)) (fun r M2 z2 hq => ?_) (fun E M2 z2 hq => by obtain ⟨hq, -⟩ := hq; cases hq)
  obtain ⟨hr, hG4, hO4, hz4⟩ := hq
  cases hr
  subst hz4
  have hC1 : CInv M2 a lo (z + 20) f n h (svU sv s f) len g := by
    refine hC.hist (by omega) (fun q q1 q2 => (hO4 q (by omega)).trans (hq3 q (by omega) (by omega))) (HInv.sav (P' := updP P (14 + s) z) (rows' := updR (updR rows (14 + s) f00) (14 + s) f) (fs' := va_up fs s (some z)) hs ⟨(hO4 _ (by omega)).trans ((hq3 _ (by omega) (by omega)).trans hHi.1), (hO4 _ (by omega)).trans ((hq3 _ (by omega) (by omega)).trans hHi.2)⟩ ((hO4 _ (by omega)).trans hsl3) (hS2.put (i := 14 + s) (by omega) updP_eq hO4 hG4) hold hn14 (fun k hk => by rw [updP_ne (by omega)]; exact hfm k hk) (fun k hk => by rw [updP_ne (by omega), updR_ne (by omega), updR_ne (by omega)]; exact hrow k hk) (fun k hk => ?_) ⟨updR_eq, z, updP_eq⟩ (fun k hk hne => by rw [updP_ne (by omega), updR_ne (by omega), updR_ne (by omega)]; exact hsv k hk))
    simp only [va_up]
    by_cases e : k = s
    · subst e
      rw [if_pos rfl, updP_eq]
    · rw [if_neg e, updP_ne (by omega)]
      exact hfs k hk
  have ho4 := (hO4 a (by omega)).trans ho3
  obtain ⟨R, ln, sg, hA, hRel⟩ := id (hF3.keep (M' := M2) (fun q _ _ => hO4 q (by omega)))
  refine g_aload_0 dX7_save_39 ?_
  refine g_get dX7_save_40 (fX7_12 rfl) ho4 rfl ?_
  refine g_get dX7_save_43 (fX7_78 rfl) hA.1 rfl ?_
  refine g_v0_1 dX7_save_46 (vX7_104 rfl) rfl hA.2.1.1 (Nat.le_of_ble_eq_true rfl) ⟨rfl, rfl⟩ (Nat.le_of_ble_eq_true rfl) (Nat.le_of_ble_eq_true rfl) (c_countLoops hA.2.1) ?_
  rw [hRel.cR hI]
  exact g_ireturn rfl rfl dX7_save_49 (Nat.le_of_ble_eq_true rfl) (Nat.le_of_ble_eq_true rfl) ⟨rfl, hC1, by omega, fun q q1 q2 => (hO4 q (by omega)).trans (hq3 q (by omega) (by omega))⟩
theorem c_restore (hC : CInv M a lo z f n h sv len g) (hs : s < 2) {rs : Row} (hsv0 : sv s = some rs) (hI : Rng (mx 947 rs f)) : Runs mX7_restore [.ref a, .int (nI s)] M z (CQ (some (.int (nI (cnt (fun i => hasL ((mx 947 rs f) (144 + i))) 144)))) M a lo (mx 947 rs f) 0 h sv len g z) := by
  obtain ⟨ho, hF, ⟨ft, hFt⟩, hH, hS, ⟨sc, pl, gr, ti, lv, od, bk, hP⟩, ⟨O, Rq, rc, Cq, hAr⟩, l1, l2⟩ := id hC
  obtain ⟨R, ln, sg, hA, hRel⟩ := id hF
  obtain ⟨r0, r1, r2, ⟨k3, k4, k5, k6, k7⟩, ⟨s0, s1, s2, s3, s4, s5⟩, m1, m2, m3⟩ := id hRel
  obtain ⟨old, P, rows, fm, fs, ⟨hHi, hsl⟩, hSl, hold, hn14, hfm, hrow, hfs, hsv⟩ := id hH
  obtain ⟨er, x, hx⟩ := (hsv s hs).2 rs hsv0
  obtain ⟨x1, x2, hxF, x4⟩ := hSl (14 + s) x (by omega) hx
  rw [er] at hxF
  have hfx : fs s = some x := (hfs s hs).trans hx
  refine runs_of plX7 rfl (Nat.le_of_ble_eq_true rfl) ?_
  show WP mX7_restore 0 [some (.ref a), some (.int (nI s)), none] [] M z 0 0 _
  refine g_iload_1 dX7_restore_0 ?_
  refine g_s1_0r dX7_restore_1 (sX7_304 rfl) rfl (Nat.le_of_ble_eq_true rfl) (Nat.le_of_ble_eq_true rfl) (Nat.le_of_ble_eq_true rfl) (c_needSlot_ok hs) ?_
  refine g_aload_0 dX7_restore_4 ?_
  refine g_get dX7_restore_5 (fX7_19 rfl) ho rfl ?_
  refine g_iload_1 dX7_restore_8 ?_
  refine g_aaldRN dX7_restore_9 hsl hs (by decide) (by rw [hfx]) ?_
  refine g_astore_2 rfl dX7_restore_10 ?_
  refine g_aload_2 dX7_restore_11 ?_
  refine g_ifnonnull (tgt := 26) dX7_restore_12 (by decide) ?_
  refine g_aload_0 dX7_restore_26 ?_
  refine g_get dX7_restore_27 (fX7_12 rfl) ho rfl ?_
  refine g_aload_2 dX7_restore_30 ?_
  refine g_v1 dX7_restore_31 (vX7_285 rfl) rfl hA.1 (Nat.le_of_ble_eq_true rfl) (Nat.le_of_ble_eq_true rfl) (Nat.le_of_ble_eq_true rfl) (q_copyFrom hF hxF (by omega)) (fun r M2 z2 hq => ?_) (fun E M2 z2 hq => by obtain ⟨hq, -⟩ := hq; cases hq)
  obtain ⟨hr9, hG, hO, hz3⟩ := hq
  cases hr9
  subst hz3
  have ho := (hO a (by omega)).trans ho
  have h0 := (hO _ (by omega)).trans hHi.1
  have hG := hG.cong (mx_eq9 (f2 := f))
  have hC2 := hC.rug hO hG
  refine g_aload_0 dX7_restore_34 ?_
  refine g_get dX7_restore_35 (fX7_26 rfl) ho rfl ?_
  refine g_iconst (v := nI 0) dX7_restore_38 rfl ?_
  refine g_putQ dX7_restore_39 (fX7_277 rfl) h0 rfl rfl (Nat.le_of_ble_eq_true rfl) (fun M3 h03 n3 => ?_)
  have ho := (n3 a (by omega)).trans ho
  have hG3 := hG.keep (M' := M3) (fun q _ _ => n3 q (by omega))
  obtain ⟨R, ln, sg, hA, hRel⟩ := id hG3
  have hC3 := hC2.hist (M' := M3) (Nat.le_refl _) (fun q q1 q2 => n3 q (by omega)) (n' := 0) (h' := h) (sv' := sv) ⟨old, P, rows, fm, fs, ⟨⟨h03, (n3 _ (by omega)).trans ((hO _ (by omega)).trans hHi.2)⟩, (n3 _ (by omega)).trans ((hO _ (by omega)).trans hsl)⟩, hSl.keep (Nat.le_refl _) (fun q _ _ => (n3 q (by omega)).trans (hO q (by omega))), hold, by omega, hfm, fun k hk => absurd hk (by omega), hfs, hsv⟩
  refine g_aload_0 dX7_restore_42 ?_
  refine g_get dX7_restore_43 (fX7_12 rfl) ho rfl ?_
  refine g_get dX7_restore_46 (fX7_78 rfl) hA.1 rfl ?_
  refine g_v0_1 dX7_restore_49 (vX7_104 rfl) rfl hA.2.1.1 (Nat.le_of_ble_eq_true rfl) ⟨rfl, rfl⟩ (Nat.le_of_ble_eq_true rfl) (Nat.le_of_ble_eq_true rfl) (c_countLoops hA.2.1) ?_
  rw [hRel.cR hI]
  exact g_ireturn rfl rfl dX7_restore_52 (Nat.le_of_ble_eq_true rfl) (Nat.le_of_ble_eq_true rfl) ⟨rfl, hC3, Nat.le_refl _, fun q q1 q2 => (n3 q (by omega)).trans (hO q (by omega))⟩
theorem c_restore_x2 (hC : CInv M a lo z f n h sv len g) (hs : s < 2) (hsv0 : sv s = none) : Runs mX7_restore [.ref a, .int (nI s)] M z (gE ISE M z) := by
  obtain ⟨ho, hF, ⟨ft, hFt⟩, hH, hS, ⟨sc, pl, gr, ti, lv, od, bk, hP⟩, ⟨O, Rq, rc, Cq, hAr⟩, l1, l2⟩ := id hC
  obtain ⟨R, ln, sg, hA, hRel⟩ := id hF
  obtain ⟨r0, r1, r2, ⟨k3, k4, k5, k6, k7⟩, ⟨s0, s1, s2, s3, s4, s5⟩, m1, m2, m3⟩ := id hRel
  obtain ⟨old, P, rows, fm, fs, ⟨hHi, hsl⟩, hSl, hold, hn14, hfm, hrow, hfs, hsv⟩ := id hH
  have hfx : fs s = none := (hfs s hs).trans ((hsv s hs).1 hsv0)
  refine runs_of plX7 rfl (Nat.le_of_ble_eq_true rfl) ?_
  show WP mX7_restore 0 [some (.ref a), some (.int (nI s)), none] [] M z 0 0 _
  refine g_iload_1 dX7_restore_0 ?_
  refine g_s1_0r dX7_restore_1 (sX7_304 rfl) rfl (Nat.le_of_ble_eq_true rfl) (Nat.le_of_ble_eq_true rfl) (Nat.le_of_ble_eq_true rfl) (c_needSlot_ok hs) ?_
  refine g_aload_0 dX7_restore_4 ?_
  refine g_get dX7_restore_5 (fX7_19 rfl) ho rfl ?_
  refine g_iload_1 dX7_restore_8 ?_
  refine g_aaldRN dX7_restore_9 hsl hs (by decide) (by rw [hfx]) ?_
  refine g_astore_2N rfl dX7_restore_10 ?_
  refine g_aload_2N dX7_restore_11 ?_
  refine g_ifnonnullN dX7_restore_12 ?_
  exact g_throw (tX7_307 rfl) rfl dX7_restore_15 dX7_restore_18 (Or.inr ⟨dX7_restore_19, dX7_restore_22, dX7_restore_25⟩) (Nat.le_of_ble_eq_true rfl) (Nat.le_of_ble_eq_true rfl) (Nat.le_of_ble_eq_true rfl) (Nat.le_of_ble_eq_true rfl) (fun z2 hz2 => ⟨rfl, rfl, hz2⟩)
theorem c_init (h0 : M a = some (.inr (7, [.null, .null, .null, .null, .null, .null, .null]))) : Runs mX7_init [.ref a] M (a + 1) (fun r M' z' => r = .inl none ∧ (∀ lo z2, a + 55 ≤ lo → lo ≤ z2 → CInv M' a lo z2 f00 0 (fun _ => f00) (fun _ => none) 0 (fun _ => 0)) ∧ Out M M' a 55 ∧ z' = a + 55) := by
  refine runs_of plX7 rfl (Nat.le_of_ble_eq_true rfl) ?_
  show WP mX7_init 0 [some (.ref a)] [] M (a + 1) 0 0 _
  refine g_aload_0 dX7_init_0 ?_
  refine g_objinit dX7_init_1 (oX7_3 rfl) gOI gOC (Nat.le_of_ble_eq_true rfl) (Nat.le_of_ble_eq_true rfl) ?_
  refine g_aload_0 dX7_init_4 ?_
  refine g_newQ dX7_init_5 (nX7_9 rfl) (Nat.le_of_ble_eq_true rfl) (Nat.le_of_ble_eq_true rfl) (fun M1 hN1 n1 => ?_)
  have h0 := (n1 _ (by omega)).trans h0
  refine g_dup dX7_init_8 rfl ?_
  refine g_i0 dX7_init_9 (iX7_11 rfl) rfl (Nat.le_of_ble_eq_true rfl) (Nat.le_of_ble_eq_true rfl) (Nat.le_of_ble_eq_true rfl) (q_rugInit hN1) (fun r2 M2 z2 hq2 => ?_) (fun E M2 z2 hq => by obtain ⟨hq, -⟩ := hq; cases hq)
  obtain ⟨hr2, hG1, hO2, hz2⟩ := hq2
  cases hr2
  subst hz2
  have h0 := (hO2 _ (by omega)).trans h0
  refine g_putFQ dX7_init_12 (fX7_12 rfl) rfl (gNN_of (by decide +kernel)) h0 rfl rfl (Nat.le_of_ble_eq_true rfl) (fun M3 h0 n3 => ?_)
  have hG1 := hG1.keep (fun b b1 b2 => n3 b (by omega))
  refine g_aload_0 dX7_init_15 ?_
  refine g_newQ dX7_init_16 (nX7_9 rfl) (Nat.le_of_ble_eq_true rfl) (Nat.le_of_ble_eq_true rfl) (fun M4 hN4 n4 => ?_)
  have h0 := (n4 _ (by omega)).trans h0
  have hG1 := hG1.keep (fun b b1 b2 => n4 b (by omega))
  refine g_dup dX7_init_19 rfl ?_
  refine g_i0 dX7_init_20 (iX7_11 rfl) rfl (Nat.le_of_ble_eq_true rfl) (Nat.le_of_ble_eq_true rfl) (Nat.le_of_ble_eq_true rfl) (q_rugInit hN4) (fun r5 M5 z5 hq5 => ?_) (fun E M2 z2 hq => by obtain ⟨hq, -⟩ := hq; cases hq)
  obtain ⟨hr5, hG2, hO5, hz5⟩ := hq5
  cases hr5
  subst hz5
  have h0 := (hO5 _ (by omega)).trans h0
  have hG1 := hG1.keep (fun b b1 b2 => hO5 b (by omega))
  refine g_putFQ dX7_init_23 (fX7_16 rfl) rfl (gNN_of (by decide +kernel)) h0 rfl rfl (Nat.le_of_ble_eq_true rfl) (fun M6 h0 n6 => ?_)
  have hG1 := hG1.keep (fun b b1 b2 => n6 b (by omega))
  have hG2 := hG2.keep (fun b b1 b2 => n6 b (by omega))
  refine g_aload_0 dX7_init_26 ?_
  refine g_iconst (v := nI 2) dX7_init_27 rfl ?_
  refine g_anewQ (kd := 4) dX7_init_28 (qX7_9 rfl) (by decide) rfl (nIc (by decide)) (nI_pos (by decide)) (by decide) (Nat.le_of_ble_eq_true rfl) (Nat.le_of_ble_eq_true rfl) (fun M7 hG3 n7 => ?_)
  have h0 := (n7 _ (by omega)).trans h0
  have hG1 := hG1.keep (fun b b1 b2 => n7 b (by omega))
  have hG2 := hG2.keep (fun b b1 b2 => n7 b (by omega))
  refine g_putFQ dX7_init_31 (fX7_19 rfl) rfl (gNN_of (by decide +kernel)) h0 rfl rfl (Nat.le_of_ble_eq_true rfl) (fun M8 h0 n8 => ?_)
  have hG3 := (n8 _ (by omega)).trans hG3
  have hG1 := hG1.keep (fun b b1 b2 => n8 b (by omega))
  have hG2 := hG2.keep (fun b b1 b2 => n8 b (by omega))
  refine g_aload_0 dX7_init_34 ?_
  refine g_newQ dX7_init_35 (nX7_23 rfl) (Nat.le_of_ble_eq_true rfl) (Nat.le_of_ble_eq_true rfl) (fun M9 hN9 n9 => ?_)
  have h0 := (n9 _ (by omega)).trans h0
  have hG3 := (n9 _ (by omega)).trans hG3
  have hG1 := hG1.keep (fun b b1 b2 => n9 b (by omega))
  have hG2 := hG2.keep (fun b b1 b2 => n9 b (by omega))
  refine g_dup dX7_init_38 rfl ?_
  refine g_i0 dX7_init_39 (iX7_25 rfl) rfl (Nat.le_of_ble_eq_true rfl) (Nat.le_of_ble_eq_true rfl) (Nat.le_of_ble_eq_true rfl) (c_historyInit hN9) (fun r10 M10 z10 hq10 => ?_) (fun E M2 z2 hq => by obtain ⟨hq, -⟩ := hq; cases hq)
  obtain ⟨hr10, ⟨hG4_0, hG4_1⟩, hO10, hz10⟩ := hq10
  cases hr10
  subst hz10
  have h0 := (hO10 _ (by omega)).trans h0
  have hG3 := (hO10 _ (by omega)).trans hG3
  have hG1 := hG1.keep (fun b b1 b2 => hO10 b (by omega))
  have hG2 := hG2.keep (fun b b1 b2 => hO10 b (by omega))
  refine g_putFQ dX7_init_42 (fX7_26 rfl) rfl (gNN_of (by decide +kernel)) h0 rfl rfl (Nat.le_of_ble_eq_true rfl) (fun M11 h0 n11 => ?_)
  have hG3 := (n11 _ (by omega)).trans hG3
  have hG4_0 := (n11 _ (by omega)).trans hG4_0
  have hG4_1 := (n11 _ (by omega)).trans hG4_1
  have hG1 := hG1.keep (fun b b1 b2 => n11 b (by omega))
  have hG2 := hG2.keep (fun b b1 b2 => n11 b (by omega))
  refine g_aload_0 dX7_init_45 ?_
  refine g_newQ dX7_init_46 (nX7_30 rfl) (Nat.le_of_ble_eq_true rfl) (Nat.le_of_ble_eq_true rfl) (fun M12 hN12 n12 => ?_)
  have h0 := (n12 _ (by omega)).trans h0
  have hG3 := (n12 _ (by omega)).trans hG3
  have hG4_0 := (n12 _ (by omega)).trans hG4_0
  have hG4_1 := (n12 _ (by omega)).trans hG4_1
  have hG1 := hG1.keep (fun b b1 b2 => n12 b (by omega))
  have hG2 := hG2.keep (fun b b1 b2 => n12 b (by omega))
  refine g_dup dX7_init_49 rfl ?_
  refine g_i0 dX7_init_50 (iX7_32 rfl) rfl (Nat.le_of_ble_eq_true rfl) (Nat.le_of_ble_eq_true rfl) (Nat.le_of_ble_eq_true rfl) (c_scriptInit hN12) (fun r13 M13 z13 hq13 => ?_) (fun E M2 z2 hq => by obtain ⟨hq, -⟩ := hq; cases hq)
  obtain ⟨hr13, hG5, hO13, hz13⟩ := hq13
  cases hr13
  subst hz13
  have h0 := (hO13 _ (by omega)).trans h0
  have hG3 := (hO13 _ (by omega)).trans hG3
  have hG4_0 := (hO13 _ (by omega)).trans hG4_0
  have hG4_1 := (hO13 _ (by omega)).trans hG4_1
  have hG1 := hG1.keep (fun b b1 b2 => hO13 b (by omega))
  have hG2 := hG2.keep (fun b b1 b2 => hO13 b (by omega))
  refine g_putFQ dX7_init_53 (fX7_33 rfl) rfl (gNN_of (by decide +kernel)) h0 rfl rfl (Nat.le_of_ble_eq_true rfl) (fun M14 h0 n14 => ?_)
  have hG3 := (n14 _ (by omega)).trans hG3
  have hG4_0 := (n14 _ (by omega)).trans hG4_0
  have hG4_1 := (n14 _ (by omega)).trans hG4_1
  have hG1 := hG1.keep (fun b b1 b2 => n14 b (by omega))
  have hG2 := hG2.keep (fun b b1 b2 => n14 b (by omega))
  have hG5 := hG5.keep (fun b b1 b2 => n14 b (by omega))
  refine g_aload_0 dX7_init_56 ?_
  refine g_newQ dX7_init_57 (nX7_37 rfl) (Nat.le_of_ble_eq_true rfl) (Nat.le_of_ble_eq_true rfl) (fun M15 hN15 n15 => ?_)
  have h0 := (n15 _ (by omega)).trans h0
  have hG3 := (n15 _ (by omega)).trans hG3
  have hG4_0 := (n15 _ (by omega)).trans hG4_0
  have hG4_1 := (n15 _ (by omega)).trans hG4_1
  have hG1 := hG1.keep (fun b b1 b2 => n15 b (by omega))
  have hG2 := hG2.keep (fun b b1 b2 => n15 b (by omega))
  have hG5 := hG5.keep (fun b b1 b2 => n15 b (by omega))
  refine g_dup dX7_init_60 rfl ?_
  refine g_i0 dX7_init_61 (iX7_39 rfl) rfl (Nat.le_of_ble_eq_true rfl) (Nat.le_of_ble_eq_true rfl) (Nat.le_of_ble_eq_true rfl) (c_playerInit hN15) (fun r16 M16 z16 hq16 => ?_) (fun E M2 z2 hq => by obtain ⟨hq, -⟩ := hq; cases hq)
  obtain ⟨hr16, ⟨hG6_0, hG6_1, hG6_2, hG6_3, hG6_4⟩, hO16, hz16⟩ := hq16
  cases hr16
  subst hz16
  have h0 := (hO16 _ (by omega)).trans h0
  have hG3 := (hO16 _ (by omega)).trans hG3
  have hG4_0 := (hO16 _ (by omega)).trans hG4_0
  have hG4_1 := (hO16 _ (by omega)).trans hG4_1
  have hG1 := hG1.keep (fun b b1 b2 => hO16 b (by omega))
  have hG2 := hG2.keep (fun b b1 b2 => hO16 b (by omega))
  have hG5 := hG5.keep (fun b b1 b2 => hO16 b (by omega))
  refine g_putFQ dX7_init_64 (fX7_40 rfl) rfl (gNN_of (by decide +kernel)) h0 rfl rfl (Nat.le_of_ble_eq_true rfl) (fun M17 h0 n17 => ?_)
  have hG3 := (n17 _ (by omega)).trans hG3
  have hG4_0 := (n17 _ (by omega)).trans hG4_0
  have hG4_1 := (n17 _ (by omega)).trans hG4_1
  have hG6_0 := (n17 _ (by omega)).trans hG6_0
  have hG6_1 := (n17 _ (by omega)).trans hG6_1
  have hG6_2 := (n17 _ (by omega)).trans hG6_2
  have hG6_3 := (n17 _ (by omega)).trans hG6_3
  have hG6_4 := (n17 _ (by omega)).trans hG6_4
  have hG1 := hG1.keep (fun b b1 b2 => n17 b (by omega))
  have hG2 := hG2.keep (fun b b1 b2 => n17 b (by omega))
  have hG5 := hG5.keep (fun b b1 b2 => n17 b (by omega))
  refine g_aload_0 dX7_init_67 ?_
  refine g_newQ dX7_init_68 (nX7_44 rfl) (Nat.le_of_ble_eq_true rfl) (Nat.le_of_ble_eq_true rfl) (fun M18 hN18 n18 => ?_)
  have h0 := (n18 _ (by omega)).trans h0
  have hG3 := (n18 _ (by omega)).trans hG3
  have hG4_0 := (n18 _ (by omega)).trans hG4_0
  have hG4_1 := (n18 _ (by omega)).trans hG4_1
  have hG6_0 := (n18 _ (by omega)).trans hG6_0
  have hG6_1 := (n18 _ (by omega)).trans hG6_1
  have hG6_2 := (n18 _ (by omega)).trans hG6_2
  have hG6_3 := (n18 _ (by omega)).trans hG6_3
  have hG6_4 := (n18 _ (by omega)).trans hG6_4
  have hG1 := hG1.keep (fun b b1 b2 => n18 b (by omega))
  have hG2 := hG2.keep (fun b b1 b2 => n18 b (by omega))
  have hG5 := hG5.keep (fun b b1 b2 => n18 b (by omega))
  refine g_dup dX7_init_71 rfl ?_
  refine g_i0 dX7_init_72 (iX7_46 rfl) rfl (Nat.le_of_ble_eq_true rfl) (Nat.le_of_ble_eq_true rfl) (Nat.le_of_ble_eq_true rfl) (c_areasInit hN18) (fun r19 M19 z19 hq19 => ?_) (fun E M2 z2 hq => by obtain ⟨hq, -⟩ := hq; cases hq)
  obtain ⟨hr19, ⟨hG7_0, hG7_1, hG7_2, hG7_3⟩, hO19, hz19⟩ := hq19
  cases hr19
  subst hz19
  have h0 := (hO19 _ (by omega)).trans h0
  have hG3 := (hO19 _ (by omega)).trans hG3
  have hG4_0 := (hO19 _ (by omega)).trans hG4_0
  have hG4_1 := (hO19 _ (by omega)).trans hG4_1
  have hG6_0 := (hO19 _ (by omega)).trans hG6_0
  have hG6_1 := (hO19 _ (by omega)).trans hG6_1
  have hG6_2 := (hO19 _ (by omega)).trans hG6_2
  have hG6_3 := (hO19 _ (by omega)).trans hG6_3
  have hG6_4 := (hO19 _ (by omega)).trans hG6_4
  have hG1 := hG1.keep (fun b b1 b2 => hO19 b (by omega))
  have hG2 := hG2.keep (fun b b1 b2 => hO19 b (by omega))
  have hG5 := hG5.keep (fun b b1 b2 => hO19 b (by omega))
  refine g_putFQ dX7_init_75 (fX7_47 rfl) rfl (gNN_of (by decide +kernel)) h0 rfl rfl (Nat.le_of_ble_eq_true rfl) (fun M20 h0 n20 => ?_)
  have hG3 := (n20 _ (by omega)).trans hG3
  have hG4_0 := (n20 _ (by omega)).trans hG4_0
  have hG4_1 := (n20 _ (by omega)).trans hG4_1
  have hG6_0 := (n20 _ (by omega)).trans hG6_0
  have hG6_1 := (n20 _ (by omega)).trans hG6_1
  have hG6_2 := (n20 _ (by omega)).trans hG6_2
  have hG6_3 := (n20 _ (by omega)).trans hG6_3
  have hG6_4 := (n20 _ (by omega)).trans hG6_4
  have hG7_0 := (n20 _ (by omega)).trans hG7_0
  have hG7_1 := (n20 _ (by omega)).trans hG7_1
  have hG7_2 := (n20 _ (by omega)).trans hG7_2
  have hG7_3 := (n20 _ (by omega)).trans hG7_3
  have hG1 := hG1.keep (fun b b1 b2 => n20 b (by omega))
  have hG2 := hG2.keep (fun b b1 b2 => n20 b (by omega))
  have hG5 := hG5.keep (fun b b1 b2 => n20 b (by omega))
  exact g_return rfl dX7_init_78 (Nat.le_of_ble_eq_true rfl) (Nat.le_of_ble_eq_true rfl) ⟨rfl, fun lo z2 l1 l2 => ⟨h0, hG1, ⟨_, hG2⟩, ⟨0, fun _ => none, fun _ => f00, fun _ => none, fun _ => none, ⟨⟨hG4_0, hG4_1⟩, hG3⟩, fun i x _ hx => (nomatch hx), by decide, by decide, fun _ _ => rfl, fun k hk => absurd hk (Nat.not_lt_zero _), fun _ _ => rfl, fun _ _ => ⟨fun _ => rfl, fun r e => (nomatch e)⟩⟩, hG5, ⟨_, _, _, _, _, _, _, hG6_0, hG6_1, hG6_2, hG6_3, hG6_4⟩, ⟨_, _, _, _, hG7_0, hG7_1, hG7_2, hG7_3⟩, l1, l2⟩, fun b hb => (((((((((((((((((((n20 b (by omega)).trans (hO19 b (by omega))).trans (n18 b (by omega))).trans (n17 b (by omega))).trans (hO16 b (by omega))).trans (n15 b (by omega))).trans (n14 b (by omega))).trans (hO13 b (by omega))).trans (n12 b (by omega))).trans (n11 b (by omega))).trans (hO10 b (by omega))).trans (n9 b (by omega))).trans (n8 b (by omega))).trans (n7 b (by omega))).trans (n6 b (by omega))).trans (hO5 b (by omega))).trans (n4 b (by omega))).trans (n3 b (by omega))).trans (hO2 b (by omega))).trans (n1 b (by omega)), rfl⟩
end P69
