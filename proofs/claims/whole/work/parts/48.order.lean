section P48
variable {M M0 : Hp} {z b c d e j i n t p q s sp st : Nat} {br : Nat} {f g : Row} {x y w v G : Int32} {I I0 : Row} {A A0 : Nat → Row} {T : Nat → Nat → Nat} {Ln : Nat → Nat} {Φ : GR → Hp → Nat → Prop}
variable {T0 : Nat → Nat}
theorem nst_noF : ∀ w {p q : Nat}, p ≤ q → q < nstF T0 w p → T0 q ≠ 41
  | 0, p, q, h, h2 => absurd h2 (by show ¬ q < p; omega)
  | w + 1, p, q, h, h2 => by
    unfold nstF at h2
    split at h2
    · omega
    · next h0 =>
      by_cases e : q = p
      · rw [e]; exact h0
      · exact nst_noF w (by omega) h2
theorem nst_no {len p : Nat} (_h : len ≤ 120) : ∀ q, p ≤ q → q < nst T0 len p → T0 q ≠ 41 := fun _ h h2 => nst_noF (len - p) h h2
theorem m_srch (hA : MAt M b I A) (hj : j = 1 ∨ j = 2) (hs : s < 5) (hst : st < 120) (hch : ∀ i, i ≤ st → chF A j s i = nI (T s i)) (h256 : ∀ i, T s i < 256) (h41 : T s st = 41) (hne : ∀ i, p ≤ i → i < st → T s i ≠ 41) (hk : WP mX8_order 455 [some (.ref b), some (.ref (b + j)), some (.int (nI t)), some (.int (nI s)), some (.int (nI p)), some (.int (nI c)), some (.int x), some (.int (nI st)), none] [] M z 0 0 Φ) : ∀ u q, q + u = st → p ≤ q → WP mX8_order 436 [some (.ref b), some (.ref (b + j)), some (.int (nI t)), some (.int (nI s)), some (.int (nI p)), some (.int (nI c)), some (.int x), some (.int (nI q)), none] [] M z 0 0 Φ := by
  intro u
  induction u with
  | zero =>
    intro q hq hpq
    have eq : q = st := by omega
    refine g_aload_0 dX8_order_436 ?_
    refine g_aload_1 dX8_order_437 ?_
    refine g_iload_3 dX8_order_438 ?_
    refine g_iload_7 dX8_order_439 ?_
    refine g_v3_1 dX8_order_441 (vX8_108 rfl) rfl hA.1 (Nat.le_of_ble_eq_true rfl) ⟨rfl, rfl⟩ (Nat.le_of_ble_eq_true rfl) (Nat.le_of_ble_eq_true rfl) (m_sign hA hj hs (by omega)) ?_
    rw [hch q (by omega), eq, h41]
    refine g_bipush (v := nI 41) dX8_order_444 rfl ?_
    refine g_icmp_eqN (tgt := 455) dX8_order_446 (by decide) (by omega) (by omega) (fun _ => ?_) (fun h446 => absurd rfl h446)
    exact hk
  | succ u ih =>
    intro q hq hpq
    refine g_aload_0 dX8_order_436 ?_
    refine g_aload_1 dX8_order_437 ?_
    refine g_iload_3 dX8_order_438 ?_
    refine g_iload_7 dX8_order_439 ?_
    refine g_v3_1 dX8_order_441 (vX8_108 rfl) rfl hA.1 (Nat.le_of_ble_eq_true rfl) ⟨rfl, rfl⟩ (Nat.le_of_ble_eq_true rfl) (Nat.le_of_ble_eq_true rfl) (m_sign hA hj hs (by omega)) ?_
    rw [hch q (by omega)]
    refine g_bipush (v := nI 41) dX8_order_444 rfl ?_
    refine g_icmp_eqN (tgt := 455) dX8_order_446 (by decide) (by (have := h256 q; omega)) (by (have := h256 q; omega)) (fun h446 => ?_) (fun h446 => ?_)
    · exact absurd h446 (hne q hpq (by omega))
    · refine g_iincN_7 (q := 1) rfl dX8_order_449 rfl ?_
      refine g_goto (tgt := 436) dX8_order_452 (by decide) ?_
      exact ih (q + 1) (by omega) (by omega)
theorem m_ord_g (hA : MAt M b I A) (hj : j = 1 ∨ j = 2) (hs : s < 5) (hst : st < 120) (hch : ∀ i, i ≤ st → chF A j s i = nI (T s i)) (h256 : ∀ i, T s i < 256) (h41 : T s st = 41) (hne : ∀ i, p ≤ i → i < st → T s i ≠ 41) (hdp : I 9 = nI (t + 1)) (ht : t < 23) (hc : 50 ≤ c ∧ c ≤ 57) (hpst : p ≤ st) : WP mX8_order 74 [some (.ref b), some (.ref (b + j)), some (.int (nI t)), some (.int (nI s)), some (.int (nI p)), some (.int (nI c)), some (.int x), none, none] [] M z 0 0 (OrdQ M b j I A (A j) 0 t (st + 1) z (puP t s (p + 2) st (c - 48))) := by
  refine g_iload_5 dX8_order_74 ?_
  refine g_bipush (v := nI 115) dX8_order_76 rfl ?_
  refine g_icmp_eqN (tgt := 88) dX8_order_78 (by decide) (by omega) (by omega) (fun h78 => absurd h78 (by omega)) (fun _ => ?_)
  refine g_iload_5 dX8_order_81 ?_
  refine g_bipush (v := nI 106) dX8_order_83 rfl ?_
  refine g_icmp_neN (tgt := 158) dX8_order_85 (by decide) (by omega) (by omega) (fun _ => ?_) (fun h85 => absurd h85 (by omega))
  refine g_iload_5 dX8_order_158 ?_
  refine g_bipush (v := nI 108) dX8_order_160 rfl ?_
  refine g_icmp_eqN (tgt := 172) dX8_order_162 (by decide) (by omega) (by omega) (fun h162 => absurd h162 (by omega)) (fun _ => ?_)
  refine g_iload_5 dX8_order_165 ?_
  refine g_bipush (v := nI 114) dX8_order_167 rfl ?_
  refine g_icmp_neN (tgt := 193) dX8_order_169 (by decide) (by omega) (by omega) (fun _ => ?_) (fun h169 => absurd h169 (by omega))
  refine g_iload_5 dX8_order_193 ?_
  refine g_bipush (v := nI 120) dX8_order_195 rfl ?_
  refine g_icmp_eqN (tgt := 207) dX8_order_197 (by decide) (by omega) (by omega) (fun h197 => absurd h197 (by omega)) (fun _ => ?_)
  refine g_iload_5 dX8_order_200 ?_
  refine g_bipush (v := nI 101) dX8_order_202 rfl ?_
  refine g_icmp_neN (tgt := 268) dX8_order_204 (by decide) (by omega) (by omega) (fun _ => ?_) (fun h204 => absurd h204 (by omega))
  refine g_iload_5 dX8_order_268 ?_
  refine g_bipush (v := nI 99) dX8_order_270 rfl ?_
  refine g_icmp_neN (tgt := 338) dX8_order_272 (by decide) (by omega) (by omega) (fun _ => ?_) (fun h272 => absurd h272 (by omega))
  refine g_iload_5 dX8_order_338 ?_
  refine g_bipush (v := nI 104) dX8_order_340 rfl ?_
  refine g_icmp_neN (tgt := 365) dX8_order_342 (by decide) (by omega) (by omega) (fun _ => ?_) (fun h342 => absurd h342 (by omega))
  refine g_iload_5 dX8_order_365 ?_
  refine g_bipush (v := nI 109) dX8_order_367 rfl ?_
  refine g_icmp_neN (tgt := 432) dX8_order_369 (by decide) (by omega) (by omega) (fun _ => ?_) (fun h369 => absurd h369 (by omega))
  refine g_iload_4 dX8_order_432 ?_
  refine g_istore_7 rfl dX8_order_434 ?_
  refine m_srch hA hj hs hst hch h256 h41 hne ?_ (st - p) p (by omega) (Nat.le_refl p)
  refine g_aload_0 dX8_order_455 ?_
  refine g_get dX8_order_456 (fX8_22 rfl) hA.1 rfl ?_
  refine g_iload_2 dX8_order_459 ?_
  refine g_iload_7 dX8_order_460 ?_
  refine g_iconst (v := nI 1) dX8_order_462 rfl ?_
  refine g_iaddN dX8_order_463 ?_
  refine g_iastN dX8_order_464 hA.2.2.2.2.2.1 (by omega) (by decide) ?_
  have hA5 := hA.a5 (g := upd (A 5) t (nI (st + 1)))
  refine g_aload_0 dX8_order_465 ?_
  refine g_iload_3 dX8_order_466 ?_
  refine g_iload_4 dX8_order_467 ?_
  refine g_iconst (v := nI 2) dX8_order_469 rfl ?_
  refine g_iaddN dX8_order_470 ?_
  refine g_iload_7 dX8_order_471 ?_
  refine g_iload_5 dX8_order_473 ?_
  refine g_bipush (v := nI 48) dX8_order_475 rfl ?_
  refine g_isubN dX8_order_477 (by omega) ?_
  refine g_v4 dX8_order_478 (vX8_130 rfl) rfl hA5.1 (Nat.le_of_ble_eq_true rfl) (Nat.le_of_ble_eq_true rfl) (Nat.le_of_ble_eq_true rfl) (m_push (n := t + 1) hA5 hdp (by omega)) (fun r M2 z2 hq => ?_) (fun E M2 z2 hq => by obtain ⟨hq, -⟩ := hq; cases hq)
  obtain ⟨hr, ⟨A8, hA8, g4, g5, g6, g7, g8, gk⟩, hO8, rfl⟩ := hq
  cases hr
  exact g_return rfl dX8_order_481 (Nat.le_of_ble_eq_true rfl) (Nat.le_of_ble_eq_true rfl) (OrdQ.push hj hA8 rfl (nI_add0 _).symm (fun k a b => upd_ne a) rfl g4 g5 g6 g7 g8 gk ((Out.put (by omega) (by omega)).tr hO8))
def oSp (g : Nat → Nat) (len c p : Nat) : Nat := if 50 ≤ c ∧ c ≤ 57 then nst g len (p + 2) + 1 else p + oSig c
def oX (g : Nat → Nat) (len : Nat) (Ln : Nat → Nat) (c d s p t : Nat) : (Nat → Row) → Nat → Prop := if c = 109 then (if 0 < Ln d then puP t d 0 (Ln d) 1 else noP t) else if 50 ≤ c ∧ c ≤ 57 then puP t s (p + 2) (nst g len (p + 2)) (c - 48) else noP t
/-- the row's and the model's texts are T's -/
def TxR (A : Nat → Row) (j : Nat) (T : Nat → Nat → Nat) (Ln : Nat → Nat) : Prop := (∀ s, s < 5 → ∀ i, i < Ln s → chF A j s i = nI (T s i)) ∧ ∀ s, s < 4 → A j (463 + s) = nI (Ln s)
theorem m_order {ins : Bool} (hA : MAt M b I A) (hj : j = 1 ∨ j = 2) (hdp : I 9 = nI (t + 1)) (ht : t < 22) (h4 : A 4 t = nI s) (h5 : A 5 t = nI p) (h7 : A 7 t = nI st) (hs : s < 5) (hT : TxtsOK T Ln) (hR : TxR A j T Ln) (hI : Rng (A j)) (hp : p < Ln s) (hv : pfa (T s) (Ln s) p 1 ins = -1) (h41 : T s p ≠ 41) (hst : st = Ln s ∨ st = nst (T s) (Ln s) p) (hsl : st ≤ Ln s) : Runs mX8_order [.ref b, .ref (b + j)] M z (OrdQ M b j I A (oDo Ln (A j) (T s p) (T s (p + 1) - 48) (T s (p + 2) - 48)).1 (oDo Ln (A j) (T s p) (T s (p + 1) - 48) (T s (p + 2) - 48)).2 t (oSp (T s) (Ln s) (T s p) p) z (oX (T s) (Ln s) Ln (T s p) (T s (p + 1) - 48) s p t)) := by
  obtain ⟨t1, t2, t3, t4⟩ := hT s hs
  have hn1 : nst (T s) (Ln s) p = nst (T s) (Ln s) (p + 1) := nst_go hp h41
  have hge : p + 1 ≤ nst (T s) (Ln s) (p + 1) := nst_le
  have hpst : p < st := by rcases hst with h | h <;> omega
  have hst1 : ∀ {P : Prop}, p + 1 < Ln s → T s (p + 1) ≠ 41 → (p + 1 < st → P) → P := by
    intro P h1 h2 k
    have := nst_go h1 h2
    have : p + 1 + 1 ≤ nst (T s) (Ln s) (p + 1 + 1) := nst_le
    exact k (by rcases hst with h | h <;> omega)
  refine runs_of plX8 rfl (Nat.le_of_ble_eq_true rfl) ?_
  show WP mX8_order 0 [some (.ref b), some (.ref (b + j)), none, none, none, none, none, none, none] [] M z 0 0 _
  refine m_ord0 hA hj hdp (by omega) h4 h5 h7 hs (by omega) hpst (fun M1 hA1 hO1 => ?_)
  have mono : ∀ {f : Row} {br sp : Nat} {X : (Nat → Row) → Nat → Prop} {pc : Nat} {L : List (Option Value)}, WP mX8_order pc L [] M1 z 0 0 (OrdQ M1 b j I (stg A 5 (upd (A 5) t (nI (p + 1)))) f br t sp z X) → WP mX8_order pc L [] M1 z 0 0 (OrdQ M b j I A f br t sp z X) := fun h =>
    wp_mono h (fun r M' z' hq => OrdQ.tr hO1 (fun _ _ _ => rfl) rfl (Or.inr trivial) (fun k _ a => stg_ne (by omega)) ⟨rfl, rfl, rfl, rfl⟩ (fun i hi k a b => by
      by_cases e : k = 5
      · subst e
        rw [stg_eq, upd_ne (by omega)]
      · rw [stg_ne e]) hq)
  have hj5 : (stg A 5 (upd (A 5) t (nI (p + 1)))) j = A j := stg_ne (by omega)
  have hch : ∀ i, i < Ln s → chF (stg A 5 (upd (A 5) t (nI (p + 1)))) j s i = nI (T s i) := by
    intro i hi
    have := hR.1 s hs i hi
    unfold chF at this ⊢
    rw [hj5, stg_ne (by decide)]
    exact this
  have h5' : (stg A 5 (upd (A 5) t (nI (p + 1)))) 5 t = nI (p + 1) := by rw [stg_eq, upd_eq]
  have hI' : Rng ((stg A 5 (upd (A 5) t (nI (p + 1)))) j) := by rw [hj5]; exact hI
  have hx : ∀ {P : Prop}, p + 1 < st → 48 ≤ T s (p + 1) → ((if p + 1 < st then chF A j s (p + 1) - nI 48 else nI 0) = nI (T s (p + 1) - 48) → P) → P := by
    intro P h1 h2 k
    refine k ?_
    rw [if_pos h1, hR.1 s hs (p + 1) (by omega), pk_sub h2]
  rw [hR.1 s hs p hp]
  rcases pfa_ord hp t1 hv h41 with ⟨c, v⟩ | ⟨c, d1, d2, d3, d4, d5, v⟩ | ⟨c, d1, d2, d3, v⟩ | ⟨c, d1, d2, d3, v⟩ | ⟨c, d1, d2, d3, v⟩ | ⟨c, d1, d2, d3, v⟩
  · have eS : oSp (T s) (Ln s) (T s p) p = p + 1 := by
      unfold oSp oSig
      rw [if_neg (by omega), if_neg (by omega), if_pos c]
    have eX : oX (T s) (Ln s) Ln (T s p) (T s (p + 1) - 48) s p t = noP t := by
      unfold oX
      rw [if_neg (by omega), if_neg (by omega)]
    rw [eS, eX]
    refine mono ?_
    rw [← hj5]
    rcases c with c | c | c | c
    · rw [c]
      exact m_ord_l hA1 hj hdp (by omega) h5' hs hI'
    · rw [c]
      exact m_ord_r hA1 hj hdp (by omega) h5' hs hI'
    · rw [c]
      have e : oDo Ln ((stg A 5 (upd (A 5) t (nI (p + 1)))) j) 120 (T s (p + 1) - 48) (T s (p + 2) - 48) = if 0 < tno ((stg A 5 (upd (A 5) t (nI (p + 1)))) j) then (f_cut ((stg A 5 (upd (A 5) t (nI (p + 1)))) j), 0) else ((stg A 5 (upd (A 5) t (nI (p + 1)))) j, 1) := rfl
      rw [e]
      rcases Nat.eq_zero_or_pos (tno ((stg A 5 (upd (A 5) t (nI (p + 1)))) j)) with h0 | h0
      · rw [if_neg (Nat.not_lt.mpr (Nat.le_of_eq h0))]
        exact m_ord_x0 hA1 hj hdp (by omega) h5' hs hI' h0
      · rw [if_pos h0]
        exact m_ord_x1 (c := tno ((stg A 5 (upd (A 5) t (nI (p + 1)))) j) - 1) hA1 hj hdp (by omega) h5' hs hI' (by omega)
    · rw [c]
      have e : oDo Ln ((stg A 5 (upd (A 5) t (nI (p + 1)))) j) 101 (T s (p + 1) - 48) (T s (p + 2) - 48) = if 0 < tno ((stg A 5 (upd (A 5) t (nI (p + 1)))) j) then (f_ease ((stg A 5 (upd (A 5) t (nI (p + 1)))) j), 0) else ((stg A 5 (upd (A 5) t (nI (p + 1)))) j, 1) := rfl
      rw [e]
      rcases Nat.eq_zero_or_pos (tno ((stg A 5 (upd (A 5) t (nI (p + 1)))) j)) with h0 | h0
      · rw [if_neg (Nat.not_lt.mpr (Nat.le_of_eq h0))]
        exact m_ord_e0 hA1 hj hdp (by omega) h5' hs hI' h0
      · rw [if_pos h0]
        exact m_ord_e1 (c := tno ((stg A 5 (upd (A 5) t (nI (p + 1)))) j) - 1) hA1 hj hdp (by omega) h5' hs hI' (by omega)
  · have eS : oSp (T s) (Ln s) (T s p) p = p + 3 := by
      unfold oSp oSig
      rw [if_neg (by omega), if_pos c]
    have eX : oX (T s) (Ln s) Ln (T s p) (T s (p + 1) - 48) s p t = noP t := by
      unfold oX
      rw [if_neg (by omega), if_neg (by omega)]
    rw [eS, eX]
    refine mono ?_
    rw [← hj5]
    refine hst1 (by omega) (by omega) (fun h1 => hx h1 d2 (fun ex => ?_))
    rw [ex]
    rcases c with c | c
    · rw [c]
      exact m_ord_s hA1 hj hdp (by omega) h5' hs hI' (by omega) (by omega) (by rw [hch _ (by omega)]; congr 1; omega)
    · rw [c]
      exact m_ord_j hA1 hj hdp (by omega) h5' hs hI' (by omega) (by omega) (by rw [hch _ (by omega)]; congr 1; omega)
  · have eS : oSp (T s) (Ln s) (T s p) p = p + 2 := by
      unfold oSp oSig
      rw [if_neg (by omega), if_neg (by omega), if_neg (by omega)]
    have eX : oX (T s) (Ln s) Ln (T s p) (T s (p + 1) - 48) s p t = noP t := by
      unfold oX
      rw [if_neg (by omega), if_neg (by omega)]
    rw [eS, eX]
    refine mono ?_
    rw [← hj5]
    refine hst1 d1 (by omega) (fun h1 => hx h1 d2 (fun ex => ?_))
    rw [ex, c]
    have e : oDo Ln ((stg A 5 (upd (A 5) t (nI (p + 1)))) j) 99 (T s (p + 1) - 48) (T s (p + 2) - 48) = if nI 20 ≤ (stg A 5 (upd (A 5) t (nI (p + 1)))) j (432 + 5 * (T s (p + 1) - 48)) then (f_thread ((stg A 5 (upd (A 5) t (nI (p + 1)))) j) (T s (p + 1) - 48), 0) else ((stg A 5 (upd (A 5) t (nI (p + 1)))) j, 1) := rfl
    rw [e]
    by_cases h20 : nI 20 ≤ (stg A 5 (upd (A 5) t (nI (p + 1)))) j (432 + 5 * (T s (p + 1) - 48))
    · rw [if_pos h20]
      exact m_ord_c1 hA1 hj hdp (by omega) h5' hs hI' (by omega) h20
    · rw [if_neg h20]
      exact m_ord_c0 hA1 hj hdp (by omega) h5' hs hI' (by omega) h20
  · have eS : oSp (T s) (Ln s) (T s p) p = p + 2 := by
      unfold oSp oSig
      rw [if_neg (by omega), if_neg (by omega), if_neg (by omega)]
    have eX : oX (T s) (Ln s) Ln (T s p) (T s (p + 1) - 48) s p t = noP t := by
      unfold oX
      rw [if_neg (by omega), if_neg (by omega)]
    rw [eS, eX]
    refine mono ?_
    rw [← hj5]
    refine hst1 d1 (by omega) (fun h1 => hx h1 (by omega) (fun ex => ?_))
    rw [ex, c]
    exact m_ord_h hA1 hj hdp (by omega) h5' hs hI'
  · have eS : oSp (T s) (Ln s) (T s p) p = p + 2 := by
      unfold oSp oSig
      rw [if_neg (by omega), if_neg (by omega), if_neg (by omega)]
    have eX : oX (T s) (Ln s) Ln (T s p) (T s (p + 1) - 48) s p t = if 0 < Ln (T s (p + 1) - 48) then puP t (T s (p + 1) - 48) 0 (Ln (T s (p + 1) - 48)) 1 else noP t := by
      unfold oX
      rw [if_pos c]
    rw [eS, eX]
    refine mono ?_
    rw [← hj5]
    refine hst1 d1 (by omega) (fun h1 => hx h1 d2 (fun ex => ?_))
    rw [ex, c]
    have hl : (stg A 5 (upd (A 5) t (nI (p + 1)))) j (463 + (T s (p + 1) - 48)) = nI (Ln (T s (p + 1) - 48)) := by rw [hj5]; exact hR.2 _ (by omega)
    have hl9 := (hT (T s (p + 1) - 48) (by omega)).1
    have e : oDo Ln ((stg A 5 (upd (A 5) t (nI (p + 1)))) j) 109 (T s (p + 1) - 48) (T s (p + 2) - 48) = ((stg A 5 (upd (A 5) t (nI (p + 1)))) j, if Ln (T s (p + 1) - 48) = 0 then 1 else 0) := rfl
    rw [e]
    by_cases h0 : 0 < Ln (T s (p + 1) - 48)
    · rw [if_pos h0, if_neg (by omega)]
      exact m_ord_m1 hA1 hj hdp (by omega) h5' hs hI' (by omega) hl hl9 h0
    · rw [if_neg h0, if_pos (by omega)]
      exact m_ord_m0 hA1 hj hdp (by omega) h5' hs hI' (by omega) hl hl9 (by omega)
  · have n2 : nst (T s) (Ln s) p = nst (T s) (Ln s) (p + 2) := hn1.trans (nst_go d2 (by omega))
    have eS : oSp (T s) (Ln s) (T s p) p = nst (T s) (Ln s) p + 1 := by
      unfold oSp
      rw [if_pos c, n2]
    have eX : oX (T s) (Ln s) Ln (T s p) (T s (p + 1) - 48) s p t = puP t s (p + 2) (nst (T s) (Ln s) p) (T s p - 48) := by
      unfold oX
      rw [if_neg (by omega), if_pos c, n2]
    rw [eS, eX]
    refine mono ?_
    rw [← hj5]
    have e : oDo Ln ((stg A 5 (upd (A 5) t (nI (p + 1)))) j) (T s p) (T s (p + 1) - 48) (T s (p + 2) - 48) = ((stg A 5 (upd (A 5) t (nI (p + 1)))) j, 0) := by
      unfold oDo
      rw [if_neg (by omega), if_neg (by omega), if_neg (by omega), if_neg (by omega), if_neg (by omega), if_neg (by omega), if_neg (by omega), if_neg (by omega), if_neg (by omega)]
    rw [e]
    have hst2 := nst_lt t1 (show p + 2 ≤ Ln s from d2) v
    rw [← n2] at hst2
    exact m_ord_g (T := T) hA1 hj hs (by omega) (fun i hi => hch i (by omega)) t2 hst2.2 (nst_no t1) hdp (by omega) c nst_le
end P48
