section P52
variable {M M0 : Hp} {z a b c d e j i n t p q s sp st pb k : Nat} {f : Row} {x y w v od bk lv : Int32} {sc : Nat → Option Nat} {pl gr ti : Row} {g : Nat → Nat} {len : Nat} {T : Nat → Nat → Nat} {Ln : Nat → Nat} {Φ : GR → Hp → Nat → Prop}
variable {tx br gr0 ti0 w u : Nat} {H4 : Prop} {rest : List Lv} {sc0 : Nat → Option Nat} {pl0 gr1 ti1 : Row}
def adS (a tx s : Nat) : Nat := if s = 4 then tx else a + (12 + 2 * s)
/-- the levels as the player holds them -/
def LvC (H4 : Prop) (a tx : Nat) (sc : Nat → Option Nat) (pl gr ti : Row) : List Lv → Prop
  | [] => True
  | (s, p, g, t) :: rest => ((s = 4 → H4) ∧ sc rest.length = some (adS a tx s) ∧ pl rest.length = nI p ∧ ti rest.length = nI t ∧ (0 < t → gr rest.length = nI g)) ∧ LvC H4 a tx sc pl gr ti rest
theorem LvC.keep {sc' : Nat → Option Nat} {pl' gr' ti' : Row} : ∀ (lv : List Lv), LvC H4 a tx sc pl gr ti lv → (∀ i, i < lv.length → sc' i = sc i ∧ pl' i = pl i ∧ gr' i = gr i ∧ ti' i = ti i) → LvC H4 a tx sc' pl' gr' ti' lv
  | [], _, _ => trivial
  | (s, p, g, t) :: rest, h, hk => by
    obtain ⟨⟨h0, h1, h2, h3, h4⟩, h5⟩ := h
    obtain ⟨k1, k2, k3, k4⟩ := hk rest.length (by rw [List.length_cons]; omega)
    exact ⟨⟨h0, k1.trans h1, k2.trans h2, k4.trans h3, fun e => k3.trans (h4 e)⟩, LvC.keep rest h5 (fun i hi => hk i (by rw [List.length_cons]; omega))⟩
/-- the motifs of a row are T's -/
def TxF (f : Row) (T : Nat → Nat → Nat) (Ln : Nat → Nat) : Prop := ∀ s, s < 4 → f (463 + s) = nI (Ln s) ∧ ∀ i, i < Ln s → f (467 + 120 * s + i) = nI (T s i)
theorem TxF.keep {f' : Row} (h : TxF f T Ln) (hT : TxtsOK T Ln) (hk : ∀ k, 463 ≤ k → f' k = f k) : TxF f' T Ln := fun s hs => ⟨(hk _ (by omega)).trans (h s hs).1, fun i hi => (hk _ (by omega)).trans ((h s hs).2 i hi)⟩
theorem scr_at (hF : RugF M a f) (hX : TxF f T Ln) (hT : TxtsOK T Ln) (hs : s < 4) : ∃ g, ScriptAt M (a + (12 + 2 * s)) (Ln s) g ∧ CharsOK g ∧ ∀ i, i < Ln s → g i = T s i := by
  obtain ⟨R, ln, sg, hA, hRel⟩ := hF
  obtain ⟨m1, m2, m3⟩ := hRel.2.2.2.2.2
  obtain ⟨x1, x2⟩ := hX s hs
  obtain ⟨t1, t2, -⟩ := hT s (by omega)
  have hl := m1 s hs
  have e : ln s = Ln s := (nI_eq (by omega) (by omega)).mp (hl.2.symm.trans x1)
  refine ⟨sg s, e ▸ hA.2.2.2.2 s hs, m3 s, fun i hi => ?_⟩
  have h1 := m2 s hs i (by omega)
  have h2 := x2 i hi
  have b1 := m3 s i
  have b2 := t2 i
  exact (nI_eq (by omega) (by omega)).mp (h1.symm.trans h2)
def DoR (M : Hp) (pb a tx : Nat) (H4 : Prop) (q : Row × Nat) (lv : List Lv) (od bk : Int32) (z : Nat) : GR → Hp → Nat → Prop := fun r M' z' => ∃ sc pl gr ti k, DoQ (decide (q.2 = 0)) M pb a q.1 sc pl gr ti k od bk z r M' z' ∧ LvC H4 a tx sc pl gr ti lv ∧ lv.length = k + 1
theorem q_doOrder (hA : PlAt M pb sc pl gr ti (nI rest.length) od bk) (hd : pb + 5 ≤ a ∨ a + 20 ≤ pb) (hF : RugF M a f) (hI : Rng f) (hX : TxF f T Ln) (hT : TxtsOK T Ln) (hC : LvC H4 a tx sc pl gr ti ((s, p, gr0, ti0) :: rest)) (hL : LvsOK T Ln ((s, p, gr0, ti0) :: rest)) (hS : ScriptAt M u (Ln s) g) (hg : CharsOK g) (hgT : ∀ i, i < Ln s → g i = T s i) (hp : p < Ln s) (h41 : T s p ≠ 41) : Runs mX3_doOrder [.ref pb, .ref a, .ref u, .int (nI p)] M z (DoR M pb a tx H4 (oDo Ln f (T s p) (T s (p + 1) - 48) (T s (p + 2) - 48)) (oLv Ln (T s p) (T s (p + 1) - 48) s p gr0 ti0 rest) od bk z) := by
  have hL' := hL
  obtain ⟨⟨a1, a2, a3, a4, a5⟩, a6, a7⟩ := hL'
  simp only at a1 a2 a3 a4 a5 a6
  obtain ⟨t1, t2, t3, t4⟩ := hT s a1
  have hk : rest.length < 5 := by omega
  obtain ⟨⟨c0, c1, c2, c3, c4⟩, c5⟩ := hC
  refine runs_of plX3 rfl (Nat.le_of_ble_eq_true rfl) ?_
  show WP mX3_doOrder 0 [some (.ref pb), some (.ref a), some (.ref u), some (.int (nI p)), none, none, none] [] M z 0 0 _
  have sg0 : sgn (Ln s) g p = T s p := (if_pos hp).trans (hgT p hp)
  have hx : p + 1 < Ln s → 48 ≤ T s (p + 1) → nI (sgn (Ln s) g (p + 1)) - nI 48 = nI (T s (p + 1) - 48) := fun h1 h2 => by
    rw [show sgn (Ln s) g (p + 1) = T s (p + 1) from (if_pos h1).trans (hgT _ h1), pk_sub h2]
  have kp : ∀ M1 : Hp, Out M M1 pb 5 → RugF M1 a f := fun M1 h => hF.keep (fun q q1 q2 => h q (by omega))
  have mono : ∀ {pc : Nat} {L : List (Option Value)} {M1 : Hp} {ok : Bool} {f1 : Row} {sc1 : Nat → Option Nat} {pl1 gr1 ti1 : Row} {k : Nat} {q : Row × Nat} {lv : List Lv}, Out M M1 pb 5 → WP mX3_doOrder pc L [] M1 z 0 0 (DoQ ok M1 pb a f1 sc1 pl1 gr1 ti1 k od bk z) → ok = decide (q.2 = 0) → f1 = q.1 → LvC H4 a tx sc1 pl1 gr1 ti1 lv → lv.length = k + 1 → WP mX3_doOrder pc L [] M1 z 0 0 (DoR M pb a tx H4 q lv od bk z) := by
    intro pc L M1 ok f1 sc1 pl1 gr1 ti1 k q lv hO h e1 e2 e3 e4
    subst e1
    subst e2
    exact wp_mono h (fun r M' z' hq => ⟨sc1, pl1, gr1, ti1, k, DoQ.tr hO hq, e3, e4⟩)
  have lv1 : ∀ p2, LvC H4 a tx sc (upd pl rest.length (nI p2)) gr ti ((s, p2, gr0, ti0) :: rest) := fun p2 => ⟨⟨c0, c1, upd_eq, c3, c4⟩, LvC.keep rest c5 (fun i hi => ⟨rfl, upd_ne (by omega), rfl, rfl⟩)⟩
  rcases pfa_ord hp t1 a4 h41 with ⟨c, v⟩ | ⟨c, d1, d2, d3, d4, d5, v⟩ | ⟨c, d1, d2, d3, v⟩ | ⟨c, d1, d2, d3, v⟩ | ⟨c, d1, d2, d3, v⟩ | ⟨c, d1, d2, d3, v⟩
  · have eL : oLv Ln (T s p) (T s (p + 1) - 48) s p gr0 ti0 rest = (s, p + oSig (T s p), gr0, ti0) :: rest := by
      unfold oLv
      rw [if_neg (by omega), if_neg (by omega)]
    rw [eL]
    rcases c with c | c | c | c
    · rw [c] at sg0 ⊢
      exact q_do0 hA hk hd hS hg t1 (by omega) sg0 q_signsOf108 (fun M1 hA1 hO1 => mono hO1 (q_do_l hA1 hk hd (kp M1 hO1) hI) rfl rfl (lv1 _) rfl)
    · rw [c] at sg0 ⊢
      exact q_do0 hA hk hd hS hg t1 (by omega) sg0 q_signsOf114 (fun M1 hA1 hO1 => mono hO1 (q_do_r hA1 hk hd (kp M1 hO1) hI) rfl rfl (lv1 _) rfl)
    · rw [c] at sg0 ⊢
      have e : oDo Ln f 120 (T s (p + 1) - 48) (T s (p + 2) - 48) = if 0 < tno f then (f_cut f, 0) else (f, 1) := rfl
      rw [e]
      refine q_do0 hA hk hd hS hg t1 (by omega) sg0 q_signsOf120 (fun M1 hA1 hO1 => mono hO1 (q_do_x hA1 hk hd (kp M1 hO1) hI) ?_ ?_ (lv1 _) rfl)
      · by_cases h0 : 0 < tno f
        · rw [if_pos h0, decide_eq_true h0]; rfl
        · rw [if_neg h0, decide_eq_false h0]; rfl
      · unfold f_cut0
        split <;> rfl
    · rw [c] at sg0 ⊢
      have e : oDo Ln f 101 (T s (p + 1) - 48) (T s (p + 2) - 48) = if 0 < tno f then (f_ease f, 0) else (f, 1) := rfl
      rw [e]
      refine q_do0 hA hk hd hS hg t1 (by omega) sg0 q_signsOf101 (fun M1 hA1 hO1 => mono hO1 (q_do_e hA1 hk hd (kp M1 hO1) hI) ?_ ?_ (lv1 _) rfl)
      · by_cases h0 : 0 < tno f
        · rw [if_pos h0, decide_eq_true h0]; rfl
        · rw [if_neg h0, decide_eq_false h0]; rfl
      · split <;> rfl
  · have eL : oLv Ln (T s p) (T s (p + 1) - 48) s p gr0 ti0 rest = (s, p + oSig (T s p), gr0, ti0) :: rest := by
      unfold oLv
      rw [if_neg (by omega), if_neg (by omega)]
    rw [eL]
    have hy : nI 10 * (nI (sgn (Ln s) g (p + 1)) - nI 48) + (nI (sgn (Ln s) g (p + 2)) - nI 48) = nI (10 * (T s (p + 1) - 48) + (T s (p + 2) - 48)) := by
      rw [hx (by omega) (by omega), show sgn (Ln s) g (p + 2) = T s (p + 2) from (if_pos d1).trans (hgT _ d1), pk_sub d4, pk_mul, nI_add]
    have ok : ∀ (m n : Nat), m ≤ n → decide (m = n) = decide ((if m < n then 1 else 0) = 0) := fun m n h => by
      by_cases e : m = n
      · rw [decide_eq_true e, if_neg (by omega)]; rfl
      · rw [decide_eq_false e, if_pos (by omega)]; rfl
    rcases c with c | c
    · rw [c] at sg0 ⊢
      refine q_do0 hA hk hd hS hg t1 (by omega) sg0 q_signsOf115 (fun M1 hA1 hO1 => ?_)
      rw [hy]
      exact mono hO1 (q_do_s hA1 hk hd (kp M1 hO1) hI (by omega)) (ok _ _ (sew_cnt _)) rfl (lv1 _) rfl
    · rw [c] at sg0 ⊢
      refine q_do0 hA hk hd hS hg t1 (by omega) sg0 q_signsOf106 (fun M1 hA1 hO1 => ?_)
      rw [hy]
      exact mono hO1 (q_do_j hA1 hk hd (kp M1 hO1) hI (by omega)) (ok _ _ (jump_cnt _)) rfl (lv1 _) rfl
  · have eL : oLv Ln (T s p) (T s (p + 1) - 48) s p gr0 ti0 rest = (s, p + oSig (T s p), gr0, ti0) :: rest := by
      unfold oLv
      rw [if_neg (by omega), if_neg (by omega)]
    rw [eL, c]
    rw [c] at sg0
    refine q_do0 hA hk hd hS hg t1 (by omega) sg0 q_signsOf99 (fun M1 hA1 hO1 => ?_)
    rw [hx d1 d2]
    have e : oDo Ln f 99 (T s (p + 1) - 48) (T s (p + 2) - 48) = if nI 20 ≤ f (432 + 5 * (T s (p + 1) - 48)) then (f_thread f (T s (p + 1) - 48), 0) else (f, 1) := rfl
    rw [e]
    refine mono hO1 (q_do_c hA1 hk hd (kp M1 hO1) hI (by omega)) ?_ ?_ (lv1 _) rfl
    · by_cases h0 : nI 20 ≤ f (432 + 5 * (T s (p + 1) - 48))
      · rw [if_pos h0, decide_eq_true h0]; rfl
      · rw [if_neg h0, decide_eq_false h0]; rfl
    · split <;> rfl
  · have eL : oLv Ln (T s p) (T s (p + 1) - 48) s p gr0 ti0 rest = (s, p + oSig (T s p), gr0, ti0) :: rest := by
      unfold oLv
      rw [if_neg (by omega), if_neg (by omega)]
    rw [eL, c]
    rw [c] at sg0
    refine q_do0 hA hk hd hS hg t1 (by omega) sg0 q_signsOf104 (fun M1 hA1 hO1 => ?_)
    rw [hx d1 (by omega)]
    exact mono hO1 (q_do_h hA1 hk hd (kp M1 hO1) hI) rfl rfl (lv1 _) rfl
  · rw [c]
    rw [c] at sg0
    refine q_do0 hA hk hd hS hg t1 (by omega) sg0 q_signsOf109 (fun M1 hA1 hO1 => ?_)
    rw [hx d1 d2]
    have e : oDo Ln f 109 (T s (p + 1) - 48) (T s (p + 2) - 48) = (f, if Ln (T s (p + 1) - 48) = 0 then 1 else 0) := rfl
    have eL : oLv Ln 109 (T s (p + 1) - 48) s p gr0 ti0 rest = if 0 < Ln (T s (p + 1) - 48) then (T s (p + 1) - 48, 0, 0, 0) :: (s, p + 2, gr0, ti0) :: rest else (s, p + 2, gr0, ti0) :: rest := rfl
    have hr := t4 p d1 c
    have hl9 := (hT (T s (p + 1) - 48) (by omega)).1
    rw [e, eL]
    by_cases h0 : 0 < Ln (T s (p + 1) - 48)
    · rw [if_pos h0, if_neg (by omega)]
      refine mono hO1 (q_do_m1 hA1 hk hd (kp M1 hO1) hI (by omega) (hX _ (by omega)).1 hl9 h0 (by omega)) rfl rfl ?_ rfl
      have e2 : ((s, p + 2, gr0, ti0) :: rest).length = rest.length + 1 := rfl
      refine ⟨⟨fun e => absurd e (by omega), ?_, ?_, ?_, fun e => absurd e (by omega)⟩, LvC.keep _ (lv1 (p + 2)) (fun i hi => ⟨?_, ?_, rfl, ?_⟩)⟩
      · rw [e2]
        show va_up sc (rest.length + 1) (some (a + (12 + 2 * (T s (p + 1) - 48)))) (rest.length + 1) = some (adS a tx (T s (p + 1) - 48))
        unfold adS
        rw [if_neg (by omega)]
        simp [va_up]
      · rw [e2, upd_eq]
      · rw [e2, upd_eq]
      · simp only [va_up]
        rw [if_neg (by omega)]
      · exact upd_ne (by omega)
      · exact upd_ne (by omega)
    · rw [if_neg h0, if_pos (by omega)]
      exact mono hO1 (q_do_m0 hA1 hk hd (kp M1 hO1) hI (by omega) (hX _ (by omega)).1 hl9 (by omega)) rfl rfl (lv1 _) rfl
  · have eL : oLv Ln (T s p) (T s (p + 1) - 48) s p gr0 ti0 rest = (s, p + 2, p + 2, T s p - 48) :: rest := by
      unfold oLv
      rw [if_neg (by omega), if_pos c]
    have e : oDo Ln f (T s p) (T s (p + 1) - 48) (T s (p + 2) - 48) = (f, 0) := by
      unfold oDo
      rw [if_neg (by omega), if_neg (by omega), if_neg (by omega), if_neg (by omega), if_neg (by omega), if_neg (by omega), if_neg (by omega), if_neg (by omega), if_neg (by omega)]
    have eS : oSig (T s p) = 2 := by
      unfold oSig
      rw [if_neg (by omega), if_neg (by omega)]
    rw [eL, e]
    refine q_do0 hA hk hd hS hg t1 (by omega) sg0 (q_signsOfD (by omega)) (fun M1 hA1 hO1 => ?_)
    rw [eS] at hA1
    exact mono hO1 (q_do_g hA1 hk hd (kp M1 hO1) hI c) rfl rfl ⟨⟨c0, c1, upd_eq, upd_eq, fun _ => upd_eq⟩, LvC.keep rest c5 (fun i hi => ⟨rfl, upd_ne (by omega), upd_ne (by omega), upd_ne (by omega)⟩)⟩ rfl
end P52
