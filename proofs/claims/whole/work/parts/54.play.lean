section P54
variable {M M0 : Hp} {z a b c d e j i n t p q s sp st pb k : Nat} {f : Row} {x y w v od bk lv : Int32} {sc : Nat → Option Nat} {pl gr ti : Row} {g : Nat → Nat} {len : Nat} {T : Nat → Nat → Nat} {Ln : Nat → Nat} {Φ : GR → Hp → Nat → Prop}
variable {tx br gr0 ti0 w u : Nat} {rest : List Lv} {ords : Nat}
theorem lvI_0 : lvI 0 = -1 := nI_m1
theorem scr_any (hF : RugF M a f) (hX : TxF f T Ln) (hT : TxtsOK T Ln) (hs : s < 5) (h4 : s = 4 → ScriptAt M tx (Ln 4) (T 4)) : ∃ g, ScriptAt M (adS a tx s) (Ln s) g ∧ CharsOK g ∧ ∀ i, i < Ln s → g i = T s i := by
  unfold adS
  by_cases e : s = 4
  · rw [if_pos e, e]
    exact ⟨T 4, h4 e, (hT 4 (by decide)).2.1, fun _ _ => rfl⟩
  · rw [if_neg e]
    exact scr_at hF hX hT (by omega)
theorem q_play_l (hd : pb + 5 ≤ a ∨ a + 20 ≤ pb) (htp : tx + 2 ≤ pb ∨ pb + 5 ≤ tx) (hta : tx + 2 ≤ a ∨ a + 20 ≤ tx) (hT : TxtsOK T Ln) {u0 : Nat} : ∀ w {lv : List Lv} {n br st : Nat} {f : Row} {M : Hp} {sc : Nat → Option Nat} {pl gr ti : Row} {l4 l5 : Option Value}, PlAt M pb sc pl gr ti (lvI lv.length) (nI n) (nI br) → LvC (ScriptAt M0 tx (Ln 4) (T 4)) a tx sc pl gr ti lv → LvsOK T Ln lv → RugF M a f → Rng f → TxF f T Ln → n ≤ 400 → (400 - n) * 10 + lms lv ≤ w → st + w ≤ 5000 →
    (∀ b, (b < pb ∨ pb + 5 ≤ b) → (b < a ∨ a + 20 ≤ b) → M b = M0 b) → WP mX3_play 23 [some (.ref pb), some (.ref a), some (.ref u0), some (.int (nI st)), l4, l5] [] M z 0 0 (PlayQ M0 pb a (prun T Ln w f lv n br) z) := by
  intro w
  induction w with
  | zero =>
    intro lv n br st f M sc pl gr ti l4 l5 hA hC hL hF hI hX hn hw hst hO
    exact q_plx hA (by omega) (by omega) (by omega) (q_pl167 hA hF hO)
  | succ w ih =>
    intro lv n br st f M sc pl gr ti l4 l5 hA hC hL hF hI hX hn hw hst hO
    cases lv with
    | nil =>
      by_cases hn4 : 400 ≤ n
      · exact q_plx hA (by omega) hn4 (by omega) (q_pl167 hA hF hO)
      · have hA' : PlAt M pb sc pl gr ti (-1) (nI n) (nI br) := hA
        exact q_ple hA' (by omega) (by omega) (q_pl167 hA' hF hO)
    | cons x rest =>
      obtain ⟨s, p, gr0, ti0⟩ := x
      have hL' := hL
      obtain ⟨⟨a1, a2, a3, a4, a5⟩, a6, a7⟩ := hL'
      simp only at a1 a2 a3 a4 a5 a6
      obtain ⟨t1, t2, t3, t4⟩ := hT s a1
      have hms : lms ((s, p, gr0, ti0) :: rest) = ti0 + 1 + lms rest := rfl
      have hA' : PlAt M pb sc pl gr ti (nI rest.length) (nI n) (nI br) := by
        rw [← lvI_s]
        exact hA
      by_cases hn4 : 400 ≤ n
      · have e : prun T Ln (w + 1) f ((s, p, gr0, ti0) :: rest) n br = (f, br) := by
          conv => lhs; unfold prun
          rw [if_pos hn4]
        rw [e]
        exact q_plx hA (by omega) hn4 (by omega) (q_pl167 hA hF hO)
      · have ep : prun T Ln (w + 1) f ((s, p, gr0, ti0) :: rest) n br = if Ln s ≤ p then prun T Ln w f rest n br else if T s p = 41 then prun T Ln w f ((s, if 1 < ti0 then gr0 else p + 1, gr0, ti0 - 1) :: rest) n br else prun T Ln w (oDo Ln f (T s p) (T s (p + 1) - 48) (T s (p + 2) - 48)).1 (oLv Ln (T s p) (T s (p + 1) - 48) s p gr0 ti0 rest) (n + 1) (br + (oDo Ln f (T s p) (T s (p + 1) - 48) (T s (p + 2) - 48)).2) := by
          conv => lhs; unfold prun
          rw [if_neg hn4]
        rw [ep]
        have hC' := hC
        obtain ⟨⟨c0, c1, c2, c3, c4⟩, c5⟩ := hC'
        obtain ⟨g, hS, hg, hgT⟩ := scr_any hF hX hT a1 (fun e => by
          obtain ⟨h1, h2⟩ := c0 e
          exact ⟨(hO tx (by omega) (by omega)).trans h1, (hO (tx + 1) (by omega) (by omega)).trans h2⟩)
        have kpF : ∀ M1 : Hp, Out M M1 pb 5 → RugF M1 a f := fun M1 h => hF.keep (fun q q1 q2 => h q (by omega))
        have kpO : ∀ M1 : Hp, Out M M1 pb 5 → ∀ b, (b < pb ∨ pb + 5 ≤ b) → (b < a ∨ a + 20 ≤ b) → M1 b = M0 b := fun M1 h b b1 b2 => (h b b1).trans (hO b b1 b2)
        by_cases hp : Ln s ≤ p
        · rw [if_pos hp]
          refine q_plpop hA' (by omega) (by omega) (by omega) c1 c2 hS t1 (by omega) hp (fun M1 hA1 hO1 => ?_)
          exact ih hA1 c5 a7 (kpF M1 hO1) hI hX hn (by omega) (by omega) (kpO M1 hO1)
        · rw [if_neg hp]
          have hch : sgn (Ln s) g p = T s p := (if_pos (by omega)).trans (hgT p (by omega))
          by_cases h41 : T s p = 41
          · obtain ⟨u1, u2, u3, u4⟩ := lv_end hT hL (by omega) h41
            rw [if_pos h41]
            by_cases ht1 : 1 < ti0
            · rw [if_pos ht1] at u3 ⊢
              refine q_plend1 hA' (by omega) (by omega) (by omega) c1 c2 hS t1 (by omega) hg (by omega) (hch.trans h41) c3 a2 ht1 (fun M1 hA1 hO1 => ?_)
              refine ih (lv := (s, gr0, gr0, ti0 - 1) :: rest) (by rw [← lvI_s rest.length] at hA1; exact hA1) ⟨⟨c0, c1, upd_eq.trans (c4 u1), upd_eq, fun _ => c4 u1⟩, LvC.keep rest c5 (fun i hi => ⟨rfl, upd_ne (by omega), rfl, upd_ne (by omega)⟩)⟩ u3 (kpF M1 hO1) hI hX hn (by show (400 - n) * 10 + (ti0 - 1 + 1 + lms rest) ≤ w; omega) (by omega) (kpO M1 hO1)
            · rw [if_neg ht1] at u3 ⊢
              refine q_plend0 hA' (by omega) (by omega) (by omega) c1 c2 hS t1 (by omega) hg (by omega) (hch.trans h41) c3 a2 (by omega) (fun M1 hA1 hO1 => ?_)
              refine ih (lv := (s, p + 1, gr0, ti0 - 1) :: rest) (by rw [← lvI_s rest.length] at hA1; exact hA1) ⟨⟨c0, c1, upd_eq, upd_eq, fun e => absurd e (by omega)⟩, LvC.keep rest c5 (fun i hi => ⟨rfl, upd_ne (by omega), rfl, upd_ne (by omega)⟩)⟩ u3 (kpF M1 hO1) hI hX hn (by show (400 - n) * 10 + (ti0 - 1 + 1 + lms rest) ≤ w; omega) (by omega) (kpO M1 hO1)
          · rw [if_neg h41]
            have hN := lv_ord hT hL (by omega) h41
            have hdo : Rng (oDo Ln f (T s p) (T s (p + 1) - 48) (T s (p + 2) - 48)).1 ∧ (∀ k, 463 ≤ k → (oDo Ln f (T s p) (T s (p + 1) - 48) (T s (p + 2) - 48)).1 k = f k) ∧ (oDo Ln f (T s p) (T s (p + 1) - 48) (T s (p + 2) - 48)).2 ≤ 1 := by
              have hp' : p < Ln s := by omega
              refine oDo_ok hI (fun e => ?_) (fun e => ?_)
              · rcases pfa_ord hp' t1 a4 h41 with ⟨c, v⟩ | ⟨c, v⟩ | ⟨c, v⟩ | ⟨c, v⟩ | ⟨c, v⟩ | ⟨c, v⟩ <;> omega
              · rcases pfa_ord hp' t1 a4 h41 with ⟨c, v⟩ | ⟨c, v⟩ | ⟨c, v⟩ | ⟨c, v⟩ | ⟨c, v⟩ | ⟨c, v⟩ <;> omega
            refine q_plord (H4 := ScriptAt M0 tx (Ln 4) (T 4)) (tx := tx) (lvs := oLv Ln (T s p) (T s (p + 1) - 48) s p gr0 ti0 rest) (qq := oDo Ln f (T s p) (T s (p + 1) - 48) (T s (p + 2) - 48)) hA' (by omega) (by omega) (by omega) c1 c2 hS t1 (by omega) hg (by omega) hch h41 (t2 p) hd hdo.2.2 (fun M1 hA1 hO1 => ?_) (fun M' sc' pl' gr' ti' k' e1 e2 e3 e4 e5 => ?_)
            · have hS1 : ScriptAt M1 (adS a tx s) (Ln s) g := by
                have hu : adS a tx s + 2 ≤ pb ∨ pb + 5 ≤ adS a tx s := by
                  unfold adS
                  split <;> omega
                exact ⟨(hO1 _ (by omega)).trans hS.1, (hO1 _ (by omega)).trans hS.2⟩
              exact q_doOrder hA1 hd (kpF M1 hO1) hI hX hT hC hL hS1 hg hgT (by omega) h41
            · exact ih (by rw [e1, lvI_s]; exact e3) e2 hN.1 e4 hdo.1 (hX.keep hT hdo.2.1) (by omega) (by omega) (by omega) (fun b b1 b2 => (e5 b b1 b2).trans (hO b b1 b2))
theorem q_play (hA : PlAt M pb sc pl gr ti lv od bk) (hd : pb + 5 ≤ a ∨ a + 20 ≤ pb) (htp : tx + 2 ≤ pb ∨ pb + 5 ≤ tx) (hta : tx + 2 ≤ a ∨ a + 20 ≤ tx) (hF : RugF M a f) (hI : Rng f) (hX : TxF f T Ln) (hT : TxtsOK T Ln) (hs : s < 5) (h4 : s = 4 → ScriptAt M tx (Ln 4) (T 4)) : Runs mX3_play [.ref pb, .ref a, .ref (adS a tx s)] M z (PlayQ M pb a (prun T Ln 4001 f [(s, 0, 0, 0)] 0 0) z) := by
  obtain ⟨t1, t2, t3, t4⟩ := hT s hs
  have hao := hA.1
  obtain ⟨g, hS, hg, hgT⟩ := scr_any (tx := tx) hF hX hT hs h4
  have hu : adS a tx s + 2 ≤ pb ∨ pb + 5 ≤ adS a tx s := by
    unfold adS
    split <;> omega
  refine runs_of plX3 rfl (Nat.le_of_ble_eq_true rfl) ?_
  show WP mX3_play 0 [some (.ref pb), some (.ref a), some (.ref (adS a tx s)), none, none, none] [] M z 0 0 _
  refine g_aload_0 dX3_play_0 ?_
  refine g_iconst (v := -1) dX3_play_1 rfl ?_
  refine g_plv dX3_play_2 (fX3_27 rfl) hA (fun M1 hA1 hO1 => ?_)
  refine g_aload_0 dX3_play_5 ?_
  refine g_iconst (v := nI 0) dX3_play_6 rfl ?_
  refine g_pod dX3_play_7 (fX3_31 rfl) hA1 (fun M2 hA2 hO2 => ?_)
  refine g_aload_0 dX3_play_10 ?_
  refine g_iconst (v := nI 0) dX3_play_11 rfl ?_
  refine g_pbk dX3_play_12 (fX3_34 rfl) hA2 (fun M3 hA3 hO3 => ?_)
  refine g_aload_0 dX3_play_15 ?_
  refine g_aload_2 dX3_play_16 ?_
  refine g_v1 dX3_play_17 (vX3_37 rfl) rfl hA3.1 (Nat.le_of_ble_eq_true rfl) (Nat.le_of_ble_eq_true rfl) (Nat.le_of_ble_eq_true rfl) (q_enter0 hA3 (((((hO1.tr hO2).tr hO3) _ (by omega))).trans hS.1) (by omega)) (fun r M2 z2 hq => ?_) (fun E M2 z2 hq => by obtain ⟨hq, -⟩ := hq; cases hq)
  obtain ⟨hr, hA4, hO4, rfl⟩ := hq
  cases hr
  have hO : Out M _ pb 5 := ((hO1.tr hO2).tr hO3).tr hO4
  refine g_pop dX3_play_20 rfl ?_
  refine g_iconst (v := nI 0) dX3_play_21 rfl ?_
  refine g_istore_3 rfl dX3_play_22 ?_
  refine q_play_l hd htp hta hT 4001 (lv := [(s, 0, 0, 0)]) (n := 0) (br := 0) (sc := va_up sc 0 (some (adS a tx s))) (pl := upd pl 0 (nI 0)) (gr := gr) (ti := upd ti 0 (nI 0)) (by show PlAt _ pb _ _ _ _ (lvI (0 + 1)) _ _; rw [lvI_s]; exact hA4) ⟨⟨fun e => h4 e, ?_, upd_eq, upd_eq, fun e => absurd e (by omega)⟩, trivial⟩ ⟨⟨hs, by show 0 < 10; omega, Nat.zero_le _, t3, fun e => absurd e (by show ¬ 0 < 0; omega)⟩, by show s + 0 < 5; omega, trivial⟩ (hF.keep (fun q q1 q2 => hO q (by omega))) hI hX (by omega) (by show (400 - 0) * 10 + (0 + 1 + 0) ≤ 4001; omega) (by omega) (fun b b1 b2 => hO b b1)
  show va_up sc 0 (some (adS a tx s)) 0 = some (adS a tx s)
  simp [va_up]
theorem q_playN (hA : PlAt M pb sc pl gr ti lv od bk) (hd : pb + 5 ≤ a ∨ a + 20 ≤ pb) (hF : RugF M a f) : Runs mX3_play [.ref pb, .ref a, .null] M z (PlayQ M pb a (f, 0) z) := by
  have hao := hA.1
  refine runs_of plX3 rfl (Nat.le_of_ble_eq_true rfl) ?_
  show WP mX3_play 0 [some (.ref pb), some (.ref a), some (.null), none, none, none] [] M z 0 0 _
  refine g_aload_0 dX3_play_0 ?_
  refine g_iconst (v := -1) dX3_play_1 rfl ?_
  refine g_plv dX3_play_2 (fX3_27 rfl) hA (fun M1 hA1 hO1 => ?_)
  refine g_aload_0 dX3_play_5 ?_
  refine g_iconst (v := nI 0) dX3_play_6 rfl ?_
  refine g_pod dX3_play_7 (fX3_31 rfl) hA1 (fun M2 hA2 hO2 => ?_)
  refine g_aload_0 dX3_play_10 ?_
  refine g_iconst (v := nI 0) dX3_play_11 rfl ?_
  refine g_pbk dX3_play_12 (fX3_34 rfl) hA2 (fun M3 hA3 hO3 => ?_)
  refine g_aload_0 dX3_play_15 ?_
  refine g_aload_2N dX3_play_16 ?_
  refine g_v1_1 dX3_play_17 (vX3_37 rfl) rfl hA3.1 (Nat.le_of_ble_eq_true rfl) ⟨rfl, rfl⟩ (Nat.le_of_ble_eq_true rfl) (Nat.le_of_ble_eq_true rfl) (q_enterN hA3) ?_
  refine g_pop dX3_play_20 rfl ?_
  refine g_iconst (v := nI 0) dX3_play_21 rfl ?_
  refine g_istore_3 rfl dX3_play_22 ?_
  have hO := (hO1.tr hO2).tr hO3
  have hF3 : RugF M3 a f := hF.keep (fun q q1 q2 => hO q (by omega))
  exact q_ple (ords := 0) (br := 0) hA3 (by omega) (by omega) (q_pl167 hA3 hF3 (fun b b1 b2 => hO b b1))
end P54
