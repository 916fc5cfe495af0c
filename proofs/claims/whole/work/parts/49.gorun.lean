section P49
variable {M M0 : Hp} {z b c d e j i n t p q s sp st : Nat} {br : Nat} {f g : Row} {x y w v G : Int32} {I I0 : Row} {A A0 : Nat → Row} {T : Nat → Nat → Nat} {Ln : Nat → Nat} {Φ : GR → Hp → Nat → Prop}
def StkAt (T : Nat → Nat → Nat) (Ln : Nat → Nat) (A : Nat → Row) : List Lv → Nat → Prop
  | [], dp => dp = 0
  | (s, p, gr, ti) :: rest, dp => ∃ d0, StkAt T Ln A rest d0 ∧ (ti = 0 → dp = d0 + 1 ∧ ∃ fi, FrAt A d0 s p fi (Ln s) 1) ∧ (0 < ti → dp = d0 + 2 ∧ (∃ fi, FrAt A d0 s (nst (T s) (Ln s) p + 1) fi (Ln s) 1) ∧ FrAt A (d0 + 1) s p gr (nst (T s) (Ln s) p) ti)
theorem FrAt.keep {fi ti : Nat} {A' : Nat → Row} (h : FrAt A i s p fi st ti) (hk : ∀ k, 4 ≤ k → k ≤ 8 → A' k i = A k i) : FrAt A' i s p fi st ti :=
  ⟨(hk 4 (by omega) (by omega)).trans h.1, (hk 5 (by omega) (by omega)).trans h.2.1, (hk 6 (by omega) (by omega)).trans h.2.2.1, (hk 7 (by omega) (by omega)).trans h.2.2.2.1, (hk 8 (by omega) (by omega)).trans h.2.2.2.2⟩
theorem StkAt.keep {A' : Nat → Row} : ∀ (lv : List Lv) {dp : Nat}, StkAt T Ln A lv dp → (∀ i, i < dp → ∀ k, 4 ≤ k → k ≤ 8 → A' k i = A k i) → StkAt T Ln A' lv dp
  | [], _, h, _ => h
  | (s, p, gr, ti) :: rest, dp, ⟨d0, h0, h1, h2⟩, hk => by
    have hd : d0 < dp := by
      rcases Nat.eq_zero_or_pos ti with e | e
      · have := (h1 e).1; omega
      · have := (h2 e).1; omega
    refine ⟨d0, StkAt.keep rest h0 (fun i hi => hk i (by omega)), fun e => ?_, fun e => ?_⟩
    · obtain ⟨a, fi, hf⟩ := h1 e
      exact ⟨a, fi, hf.keep (hk d0 (by omega))⟩
    · obtain ⟨a, ⟨fi, hf⟩, hg⟩ := h2 e
      exact ⟨a, ⟨fi, hf.keep (hk d0 (by omega))⟩, hg.keep (hk (d0 + 1) (by omega))⟩
theorem StkAt.le : ∀ (lv : List Lv) {dp : Nat}, StkAt T Ln A lv dp → dp ≤ 2 * lv.length
  | [], dp, h => by
    have h : dp = 0 := h
    omega
  | (s, p, gr, ti) :: rest, dp, ⟨d0, h0, h1, h2⟩ => by
    have := StkAt.le rest h0
    rw [List.length_cons]
    rcases Nat.eq_zero_or_pos ti with e | e
    · have := (h1 e).1; omega
    · have := (h2 e).1; omega
theorem stk_ord {gr ti dp : Nat} {rest : List Lv} {A' : Nat → Row} (hT : TxtsOK T Ln) (hL : LvsOK T Ln ((s, p, gr, ti) :: rest)) (hS : StkAt T Ln A ((s, p, gr, ti) :: rest) (t + 1)) (hp : p < Ln s) (h41 : T s p ≠ 41)
    (e5 : A' 5 t = nI (oSp (T s) (Ln s) (T s p) p)) (e4 : A' 4 t = A 4 t) (e6 : A' 6 t = A 6 t) (e7 : A' 7 t = A 7 t) (e8 : A' 8 t = A 8 t) (hlt : ∀ i, i < t → ∀ k, 4 ≤ k → k ≤ 8 → A' k i = A k i)
    (hX : oX (T s) (Ln s) Ln (T s p) (T s (p + 1) - 48) s p t A' dp) : StkAt T Ln A' (oLv Ln (T s p) (T s (p + 1) - 48) s p gr ti rest) dp := by
  have hN := (lv_ord hT hL hp h41).1
  obtain ⟨⟨a1, a2, a3, a4, a5⟩, a6, a7⟩ := hL
  simp only at a1 a2 a3 a4 a5 a6
  obtain ⟨d0, h0, h1, h2⟩ := hS
  have fr : ∀ {fi st2 ti2 : Nat}, FrAt A t s p fi st2 ti2 → FrAt A' t s (oSp (T s) (Ln s) (T s p) p) fi st2 ti2 := fun h => ⟨e4.trans h.1, e5, e6.trans h.2.2.1, e7.trans h.2.2.2.1, e8.trans h.2.2.2.2⟩
  -- the level goes on at p2
  have go : ∀ p2, oSp (T s) (Ln s) (T s p) p = p2 → (0 < ti → nst (T s) (Ln s) p2 = nst (T s) (Ln s) p) → StkAt T Ln A' ((s, p2, gr, ti) :: rest) (t + 1) := by
    intro p2 e2 hn
    refine ⟨d0, StkAt.keep rest h0 (fun i hi => hlt i ?_), fun e => ?_, fun e => ?_⟩
    · rcases Nat.eq_zero_or_pos ti with e | e
      · have := (h1 e).1; omega
      · have := (h2 e).1; omega
    · obtain ⟨b1, fi, b2⟩ := h1 e
      have ed : d0 = t := by omega
      subst ed
      exact ⟨rfl, fi, e2 ▸ fr b2⟩
    · obtain ⟨b1, ⟨fi, b2⟩, b3⟩ := h2 e
      have ed : d0 + 1 = t := by omega
      rw [hn e]
      exact ⟨by omega, ⟨fi, b2.keep (hlt d0 (by omega))⟩, by rw [ed] at b3 ⊢; exact e2 ▸ fr b3⟩
  obtain ⟨t1, t2, t3, t4⟩ := hT s a1
  by_cases c9 : T s p = 109
  · have eS : oSp (T s) (Ln s) (T s p) p = p + 2 := by
      unfold oSp oSig
      rw [if_neg (by omega), if_neg (by omega), if_neg (by omega)]
    unfold oLv at hN ⊢
    unfold oX at hX
    rw [if_pos c9] at hN hX ⊢
    by_cases hl : 0 < Ln (T s (p + 1) - 48)
    · rw [if_pos hl] at hN hX ⊢
      obtain ⟨x1, x2⟩ := hX
      have g1 := go (p + 2) eS (fun e => ((hN.2.2.1.2.2.2.2 e).2.2).symm.trans ((a5 e).2.2))
      exact ⟨t + 1, g1, fun _ => ⟨x1, 0, x2⟩, fun e => absurd e (by omega)⟩
    · rw [if_neg hl] at hN hX ⊢
      have hX : dp = t + 1 := hX
      rw [hX]
      exact go (p + 2) eS (fun e => ((hN.1.2.2.2.2 e).2.2).symm.trans ((a5 e).2.2))
  by_cases cd : 50 ≤ T s p ∧ T s p ≤ 57
  · have hti : ti = 0 := by
      rcases pfa_ord hp t1 a4 h41 with ⟨c, v⟩ | ⟨c, v⟩ | ⟨c, v⟩ | ⟨c, v⟩ | ⟨c, v⟩ | ⟨c, v, v2⟩
      · omega
      · omega
      · omega
      · omega
      · omega
      · have := of_decide_eq_false v
        omega
    unfold oLv
    unfold oX at hX
    rw [if_neg c9, if_pos cd] at hX ⊢
    have eS : oSp (T s) (Ln s) (T s p) p = nst (T s) (Ln s) (p + 2) + 1 := by
      unfold oSp
      rw [if_pos cd]
    obtain ⟨x1, x2⟩ := hX
    obtain ⟨b1, fi, b2⟩ := h1 hti
    have ed : d0 = t := by omega
    subst ed
    exact ⟨d0, StkAt.keep rest h0 hlt, fun e => absurd e (by omega), fun _ => ⟨x1, ⟨fi, eS ▸ fr b2⟩, x2⟩⟩
  · have eS : oSp (T s) (Ln s) (T s p) p = p + oSig (T s p) := by
      unfold oSp
      rw [if_neg cd]
    unfold oLv at hN ⊢
    unfold oX at hX
    rw [if_neg c9, if_neg cd] at hN hX ⊢
    have hX : dp = t + 1 := hX
    rw [hX]
    exact go _ eS (fun e => ((hN.1.2.2.2.2 e).2.2).symm.trans ((a5 e).2.2))
theorem TxR.keep {A' : Nat → Row} (h : TxR A j T Ln) (h12 : A' 12 = A 12) (hj : ∀ k, 463 ≤ k → A' j k = A j k) : TxR A' j T Ln := by
  refine ⟨fun s hs i hi => ?_, fun s hs => (hj _ (by omega)).trans (h.2 s hs)⟩
  have := h.1 s hs i hi
  unfold chF at this ⊢
  rw [h12]
  split
  · next e => rw [if_pos e] at this; exact this
  · next e => rw [if_neg e] at this; rw [hj _ (by omega)]; exact this
/-- a run's outcome: how many are broken, the row -/
def RunQ (M : Hp) (b j : Nat) (I : Row) (A : Nat → Row) (q : Row × Nat) (z : Nat) : GR → Hp → Nat → Prop := fun r M' z' => r = .inl (some (.int (nI q.2))) ∧ (∃ I' A', MAt M' b I' A' ∧ A' j = q.1 ∧ (∀ k, k ≠ 9 → k ≠ 10 → I' k = I k) ∧ (∀ k, k ≠ j → (k < 4 ∨ 8 < k) → A' k = A k)) ∧ Out M M' b 13 ∧ z' = z
theorem m_run124 {l5 : Option Value} (hA : MAt M b I A) (h10 : I 10 = nI br) (hf : A j = f) (hI : ∀ k, k ≠ 9 → k ≠ 10 → I k = I0 k) (hk : ∀ k, k ≠ j → (k < 4 ∨ 8 < k) → A k = A0 k) (hO : Out M0 M b 13) : WP mX8_goRun 124 [some (.ref b), some (.ref (b + j)), some (.int x), some (.int y), some (.int (nI n)), l5] [] M z 0 0 (RunQ M0 b j I0 A0 (f, br) z) := by
  refine g_aload_0 dX8_goRun_124 ?_
  refine g_get dX8_goRun_125 (fX8_105 rfl) hA.1 rfl ?_
  rw [h10]
  exact g_ireturn rfl rfl dX8_goRun_128 (Nat.le_of_ble_eq_true rfl) (Nat.le_of_ble_eq_true rfl) ⟨rfl, ⟨I, A, hA, hf, hI, hk⟩, hO, rfl⟩
theorem m_run_x0 {l5 : Option Value} (hA : MAt M b I A) (h9 : I 9 = nI 0) (hk : WP mX8_goRun 124 [some (.ref b), some (.ref (b + j)), some (.int x), some (.int y), some (.int (nI n)), l5] [] M z 0 0 Φ) : WP mX8_goRun 21 [some (.ref b), some (.ref (b + j)), some (.int x), some (.int y), some (.int (nI n)), l5] [] M z 0 0 Φ := by
  refine g_aload_0 dX8_goRun_21 ?_
  refine g_get dX8_goRun_22 (fX8_102 rfl) hA.1 rfl ?_
  rw [h9]
  refine g_if_leN (tgt := 124) dX8_goRun_25 (by decide) (by omega) (fun _ => ?_) (fun h25 => absurd rfl h25)
  exact hk
theorem m_run_xn {l5 : Option Value} (hA : MAt M b I A) (h9 : I 9 = nI (t + 1)) (ht : t < 24) (hn : 400 ≤ n) (hn9 : n < 1000) (hk : WP mX8_goRun 124 [some (.ref b), some (.ref (b + j)), some (.int x), some (.int y), some (.int (nI n)), l5] [] M z 0 0 Φ) : WP mX8_goRun 21 [some (.ref b), some (.ref (b + j)), some (.int x), some (.int y), some (.int (nI n)), l5] [] M z 0 0 Φ := by
  refine g_aload_0 dX8_goRun_21 ?_
  refine g_get dX8_goRun_22 (fX8_102 rfl) hA.1 rfl ?_
  rw [h9]
  refine g_if_leN (tgt := 124) dX8_goRun_25 (by decide) (by omega) (fun h25 => absurd h25 (by omega)) (fun _ => ?_)
  refine g_iload_4 dX8_goRun_28 ?_
  refine g_sipush (v := nI 400) dX8_goRun_30 rfl ?_
  refine g_icmp_geN (tgt := 124) dX8_goRun_33 (by decide) (by omega) (by omega) (fun _ => ?_) (fun h33 => absurd h33 (by omega))
  exact hk
theorem m_run_ord {l5 : Option Value} (hA : MAt M b I A) (h9 : I 9 = nI (t + 1)) (ht : t < 24) (hn : n < 400) {fi ti : Nat} (hf : FrAt A t s p fi st ti) (hp9 : p < 1000) (hs9 : st < 1000) (ht9 : ti < 1000) (hps : p < st) {X : (Nat → Row) → Nat → Prop} (ho : Runs mX8_order [.ref b, .ref (b + j)] M z (OrdQ M b j I A f br t sp z X)) (hk : ∀ M', OrdQ M b j I A f br t sp z X (.inl none) M' z → WP mX8_goRun 21 [some (.ref b), some (.ref (b + j)), some (.int x), some (.int y), some (.int (nI (n + 1))), some (.int (nI t))] [] M' z 0 0 Φ) : WP mX8_goRun 21 [some (.ref b), some (.ref (b + j)), some (.int x), some (.int y), some (.int (nI n)), l5] [] M z 0 0 Φ := by
  refine g_aload_0 dX8_goRun_21 ?_
  refine g_get dX8_goRun_22 (fX8_102 rfl) hA.1 rfl ?_
  rw [h9]
  refine g_if_leN (tgt := 124) dX8_goRun_25 (by decide) (by omega) (fun h25 => absurd h25 (by omega)) (fun _ => ?_)
  refine g_iload_4 dX8_goRun_28 ?_
  refine g_sipush (v := nI 400) dX8_goRun_30 rfl ?_
  refine g_icmp_geN (tgt := 124) dX8_goRun_33 (by decide) (by omega) (by omega) (fun h33 => absurd h33 (by omega)) (fun _ => ?_)
  refine g_aload_0 dX8_goRun_36 ?_
  refine g_get dX8_goRun_37 (fX8_102 rfl) hA.1 rfl ?_
  rw [h9]
  refine g_iconst (v := nI 1) dX8_goRun_40 rfl ?_
  refine g_isubN dX8_goRun_41 (by omega) ?_
  rw [show t + 1 - 1 = t from rfl]
  refine g_istore_5 rfl dX8_goRun_42 ?_
  refine g_aload_0 dX8_goRun_44 ?_
  refine g_get dX8_goRun_45 (fX8_22 rfl) hA.1 rfl ?_
  refine g_iload_5 dX8_goRun_48 ?_
  refine g_ialdN dX8_goRun_50 hA.2.2.2.2.2.1 (by omega) (by decide) ?_
  rw [hf.2.1]
  refine g_aload_0 dX8_goRun_51 ?_
  refine g_get dX8_goRun_52 (fX8_28 rfl) hA.1 rfl ?_
  refine g_iload_5 dX8_goRun_55 ?_
  refine g_ialdN dX8_goRun_57 hA.2.2.2.2.2.2.2.1 (by omega) (by decide) ?_
  rw [hf.2.2.2.1]
  refine g_icmp_geN (tgt := 72) dX8_goRun_58 (by decide) (by omega) (by omega) (fun h58 => absurd h58 (by omega)) (fun _ => ?_)
  refine g_aload_0 dX8_goRun_61 ?_
  refine g_aload_1 dX8_goRun_62 ?_
  refine g_v1 dX8_goRun_63 (vX8_134 rfl) rfl hA.1 (Nat.le_of_ble_eq_true rfl) (Nat.le_of_ble_eq_true rfl) (Nat.le_of_ble_eq_true rfl) (ho) (fun r M2 z2 hq => ?_) (fun E M2 z2 hq => by have := hq.1; cases this)
  have hz : z2 = z := hq.2.2.2
  have hr : r = none := by have := hq.1; cases this; rfl
  subst hz
  subst hr
  refine g_iincN_4 (q := 1) rfl dX8_goRun_66 rfl ?_
  refine g_goto (tgt := 121) dX8_goRun_69 (by decide) ?_
  refine g_goto (tgt := 21) dX8_goRun_121 (by decide) ?_
  exact hk _ hq
theorem m_run_rep {l5 : Option Value} (hA : MAt M b I A) (h9 : I 9 = nI (t + 1)) (ht : t < 24) (hn : n < 400) {fi ti : Nat} (hf : FrAt A t s p fi st ti) (hp9 : p < 1000) (hs9 : st < 1000) (ht9 : ti < 1000) (hps : st ≤ p) (hti : 1 < ti) (hk : ∀ M', MAt M' b I (stg (stg A 8 (upd (A 8) t (nI (ti - 1)))) 5 (upd ((stg A 8 (upd (A 8) t (nI (ti - 1)))) 5) t (nI fi))) → Out M M' b 13 → WP mX8_goRun 21 [some (.ref b), some (.ref (b + j)), some (.int x), some (.int y), some (.int (nI n)), some (.int (nI t))] [] M' z 0 0 Φ) : WP mX8_goRun 21 [some (.ref b), some (.ref (b + j)), some (.int x), some (.int y), some (.int (nI n)), l5] [] M z 0 0 Φ := by
  refine g_aload_0 dX8_goRun_21 ?_
  refine g_get dX8_goRun_22 (fX8_102 rfl) hA.1 rfl ?_
  rw [h9]
  refine g_if_leN (tgt := 124) dX8_goRun_25 (by decide) (by omega) (fun h25 => absurd h25 (by omega)) (fun _ => ?_)
  refine g_iload_4 dX8_goRun_28 ?_
  refine g_sipush (v := nI 400) dX8_goRun_30 rfl ?_
  refine g_icmp_geN (tgt := 124) dX8_goRun_33 (by decide) (by omega) (by omega) (fun h33 => absurd h33 (by omega)) (fun _ => ?_)
  refine g_aload_0 dX8_goRun_36 ?_
  refine g_get dX8_goRun_37 (fX8_102 rfl) hA.1 rfl ?_
  rw [h9]
  refine g_iconst (v := nI 1) dX8_goRun_40 rfl ?_
  refine g_isubN dX8_goRun_41 (by omega) ?_
  rw [show t + 1 - 1 = t from rfl]
  refine g_istore_5 rfl dX8_goRun_42 ?_
  refine g_aload_0 dX8_goRun_44 ?_
  refine g_get dX8_goRun_45 (fX8_22 rfl) hA.1 rfl ?_
  refine g_iload_5 dX8_goRun_48 ?_
  refine g_ialdN dX8_goRun_50 hA.2.2.2.2.2.1 (by omega) (by decide) ?_
  rw [hf.2.1]
  refine g_aload_0 dX8_goRun_51 ?_
  refine g_get dX8_goRun_52 (fX8_28 rfl) hA.1 rfl ?_
  refine g_iload_5 dX8_goRun_55 ?_
  refine g_ialdN dX8_goRun_57 hA.2.2.2.2.2.2.2.1 (by omega) (by decide) ?_
  rw [hf.2.2.2.1]
  refine g_icmp_geN (tgt := 72) dX8_goRun_58 (by decide) (by omega) (by omega) (fun _ => ?_) (fun h58 => absurd h58 (by omega))
  refine g_aload_0 dX8_goRun_72 ?_
  refine g_get dX8_goRun_73 (fX8_31 rfl) hA.1 rfl ?_
  refine g_iload_5 dX8_goRun_76 ?_
  refine g_ialdN dX8_goRun_78 hA.2.2.2.2.2.2.2.2.1 (by omega) (by decide) ?_
  rw [hf.2.2.2.2]
  refine g_iconst (v := nI 1) dX8_goRun_79 rfl ?_
  refine g_icmp_leN (tgt := 111) dX8_goRun_80 (by decide) (by omega) (by omega) (fun h80 => absurd h80 (by omega)) (fun _ => ?_)
  refine g_aload_0 dX8_goRun_83 ?_
  refine g_get dX8_goRun_84 (fX8_31 rfl) hA.1 rfl ?_
  refine g_iload_5 dX8_goRun_87 ?_
  refine g_dup2 dX8_goRun_89 rfl rfl ?_
  refine g_ialdN dX8_goRun_90 hA.2.2.2.2.2.2.2.2.1 (by omega) (by decide) ?_
  rw [hf.2.2.2.2]
  refine g_iconst (v := nI 1) dX8_goRun_91 rfl ?_
  refine g_isubN dX8_goRun_92 (by omega) ?_
  refine g_iastN dX8_goRun_93 hA.2.2.2.2.2.2.2.2.1 (by omega) (by decide) ?_
  have hA5 := hA.a8 (g := upd (A 8) t (nI (ti - 1)))
  refine g_aload_0 dX8_goRun_94 ?_
  refine g_get dX8_goRun_95 (fX8_22 rfl) hA5.1 rfl ?_
  refine g_iload_5 dX8_goRun_98 ?_
  refine g_aload_0 dX8_goRun_100 ?_
  refine g_get dX8_goRun_101 (fX8_25 rfl) hA5.1 rfl ?_
  refine g_iload_5 dX8_goRun_104 ?_
  refine g_ialdN dX8_goRun_106 hA5.2.2.2.2.2.2.1 (by omega) (by decide) ?_
  rw [stg_ne (by decide), hf.2.2.1]
  refine g_iastN dX8_goRun_107 hA5.2.2.2.2.2.1 (by omega) (by decide) ?_
  have hA6 := hA5.a5 (g := upd ((stg A 8 (upd (A 8) t (nI (ti - 1)))) 5) t (nI fi))
  refine g_goto (tgt := 121) dX8_goRun_108 (by decide) ?_
  refine g_goto (tgt := 21) dX8_goRun_121 (by decide) ?_
  exact hk _ hA6 ((Out.put (by omega) (by omega)).tr (Out.put (by omega) (by omega)))
theorem m_run_pop {l5 : Option Value} (hA : MAt M b I A) (h9 : I 9 = nI (t + 1)) (ht : t < 24) (hn : n < 400) {fi ti : Nat} (hf : FrAt A t s p fi st ti) (hp9 : p < 1000) (hs9 : st < 1000) (ht9 : ti < 1000) (hps : st ≤ p) (hti : ti ≤ 1) (hk : ∀ M', MAt M' b (upd I 9 (nI t)) A → Out M M' b 13 → WP mX8_goRun 21 [some (.ref b), some (.ref (b + j)), some (.int x), some (.int y), some (.int (nI n)), some (.int (nI t))] [] M' z 0 0 Φ) : WP mX8_goRun 21 [some (.ref b), some (.ref (b + j)), some (.int x), some (.int y), some (.int (nI n)), l5] [] M z 0 0 Φ := by
  refine g_aload_0 dX8_goRun_21 ?_
  refine g_get dX8_goRun_22 (fX8_102 rfl) hA.1 rfl ?_
  rw [h9]
  refine g_if_leN (tgt := 124) dX8_goRun_25 (by decide) (by omega) (fun h25 => absurd h25 (by omega)) (fun _ => ?_)
  refine g_iload_4 dX8_goRun_28 ?_
  refine g_sipush (v := nI 400) dX8_goRun_30 rfl ?_
  refine g_icmp_geN (tgt := 124) dX8_goRun_33 (by decide) (by omega) (by omega) (fun h33 => absurd h33 (by omega)) (fun _ => ?_)
  refine g_aload_0 dX8_goRun_36 ?_
  refine g_get dX8_goRun_37 (fX8_102 rfl) hA.1 rfl ?_
  rw [h9]
  refine g_iconst (v := nI 1) dX8_goRun_40 rfl ?_
  refine g_isubN dX8_goRun_41 (by omega) ?_
  rw [show t + 1 - 1 = t from rfl]
  refine g_istore_5 rfl dX8_goRun_42 ?_
  refine g_aload_0 dX8_goRun_44 ?_
  refine g_get dX8_goRun_45 (fX8_22 rfl) hA.1 rfl ?_
  refine g_iload_5 dX8_goRun_48 ?_
  refine g_ialdN dX8_goRun_50 hA.2.2.2.2.2.1 (by omega) (by decide) ?_
  rw [hf.2.1]
  refine g_aload_0 dX8_goRun_51 ?_
  refine g_get dX8_goRun_52 (fX8_28 rfl) hA.1 rfl ?_
  refine g_iload_5 dX8_goRun_55 ?_
  refine g_ialdN dX8_goRun_57 hA.2.2.2.2.2.2.2.1 (by omega) (by decide) ?_
  rw [hf.2.2.2.1]
  refine g_icmp_geN (tgt := 72) dX8_goRun_58 (by decide) (by omega) (by omega) (fun _ => ?_) (fun h58 => absurd h58 (by omega))
  refine g_aload_0 dX8_goRun_72 ?_
  refine g_get dX8_goRun_73 (fX8_31 rfl) hA.1 rfl ?_
  refine g_iload_5 dX8_goRun_76 ?_
  refine g_ialdN dX8_goRun_78 hA.2.2.2.2.2.2.2.2.1 (by omega) (by decide) ?_
  rw [hf.2.2.2.2]
  refine g_iconst (v := nI 1) dX8_goRun_79 rfl ?_
  refine g_icmp_leN (tgt := 111) dX8_goRun_80 (by decide) (by omega) (by omega) (fun _ => ?_) (fun h80 => absurd h80 (by omega))
  refine g_aload_0 dX8_goRun_111 ?_
  refine g_dup dX8_goRun_112 rfl ?_
  refine g_get dX8_goRun_113 (fX8_102 rfl) hA.1 rfl ?_
  rw [h9]
  refine g_iconst (v := nI 1) dX8_goRun_116 rfl ?_
  refine g_isubN dX8_goRun_117 (by omega) ?_
  rw [show t + 1 - 1 = t from rfl]
  refine g_putI9 dX8_goRun_118 (fX8_102 rfl) hA (fun M1 hA1 n1 => ?_)
  have hao1 := hA1.1
  refine g_goto (tgt := 21) dX8_goRun_121 (by decide) ?_
  exact hk _ hA1 (fun q hq => n1 q (by omega))
theorem m_run_l (hj : j = 1 ∨ j = 2) (hT : TxtsOK T Ln) : ∀ w {lv : List Lv} {n br dp : Nat} {f : Row} {I : Row} {A : Nat → Row} {M : Hp} {l5 : Option Value}, MAt M b I A → A j = f → Rng f → StkAt T Ln A lv dp → I 9 = nI dp → I 10 = nI br → LvsOK T Ln lv → TxR A j T Ln → n ≤ 400 → (400 - n) * 10 + lms lv ≤ w →
    (∀ k, k ≠ 9 → k ≠ 10 → I k = I0 k) → (∀ k, k ≠ j → (k < 4 ∨ 8 < k) → A k = A0 k) → Out M0 M b 13 → WP mX8_goRun 21 [some (.ref b), some (.ref (b + j)), some (.int x), some (.int y), some (.int (nI n)), l5] [] M z 0 0 (RunQ M0 b j I0 A0 (prun T Ln w f lv n br) z) := by
  intro w
  induction w with
  | zero =>
    intro lv n br dp f I A M l5 hA hf hR hS h9 h10 hL hX hn hw hI hk hO
    cases lv with
    | nil =>
      have hd : dp = 0 := hS
      subst hd
      exact m_run_x0 hA h9 (m_run124 hA h10 hf hI hk hO)
    | cons x r =>
      have : lms (x :: r) = x.2.2.2 + 1 + lms r := rfl
      omega
  | succ w ih =>
    intro lv n br dp f I A M l5 hA hf hR hS h9 h10 hL hX hn hw hI hk hO
    cases lv with
    | nil =>
      have hd : dp = 0 := hS
      subst hd
      exact m_run_x0 hA h9 (m_run124 hA h10 hf hI hk hO)
    | cons x rest =>
      obtain ⟨s, p, gr, ti⟩ := x
      have hlen := StkAt.le _ hS
      have hL' := hL
      obtain ⟨⟨a1, a2, a3, a4, a5⟩, a6, a7⟩ := hL'
      simp only at a1 a2 a3 a4 a5 a6
      rw [List.length_cons] at hlen
      obtain ⟨t1, t2, t3, t4⟩ := hT s a1
      have hS' := hS
      obtain ⟨d0, h0, h1, h2⟩ := hS'
      have hms : lms ((s, p, gr, ti) :: rest) = ti + 1 + lms rest := rfl
      have hdp : ∃ t, dp = t + 1 := by
        rcases Nat.eq_zero_or_pos ti with e | e
        · exact ⟨d0, (h1 e).1⟩
        · exact ⟨d0 + 1, (h2 e).1⟩
      obtain ⟨t, hdt⟩ := hdp
      subst hdt
      by_cases hn4 : 400 ≤ n
      · have e : prun T Ln (w + 1) f ((s, p, gr, ti) :: rest) n br = (f, br) := by
          conv => lhs; unfold prun
          rw [if_pos hn4]
        rw [e]
        exact m_run_xn hA h9 (by omega) hn4 (by omega) (m_run124 hA h10 hf hI hk hO)
      · have ep : prun T Ln (w + 1) f ((s, p, gr, ti) :: rest) n br = if Ln s ≤ p then prun T Ln w f rest n br else if T s p = 41 then prun T Ln w f ((s, if 1 < ti then gr else p + 1, gr, ti - 1) :: rest) n br else prun T Ln w (oDo Ln f (T s p) (T s (p + 1) - 48) (T s (p + 2) - 48)).1 (oLv Ln (T s p) (T s (p + 1) - 48) s p gr ti rest) (n + 1) (br + (oDo Ln f (T s p) (T s (p + 1) - 48) (T s (p + 2) - 48)).2) := by
          conv => lhs; unfold prun
          rw [if_neg hn4]
        rw [ep]
        -- an order is done
        have ord : ∀ {fi st ti2 : Nat}, FrAt A t s p fi st ti2 → p < Ln s → T s p ≠ 41 → (st = Ln s ∨ st = nst (T s) (Ln s) p) → p < st → st ≤ Ln s → ti2 < 10 → WP mX8_goRun 21 [some (.ref b), some (.ref (b + j)), some (.int x), some (.int y), some (.int (nI n)), l5] [] M z 0 0 (RunQ M0 b j I0 A0 (prun T Ln w (oDo Ln f (T s p) (T s (p + 1) - 48) (T s (p + 2) - 48)).1 (oLv Ln (T s p) (T s (p + 1) - 48) s p gr ti rest) (n + 1) (br + (oDo Ln f (T s p) (T s (p + 1) - 48) (T s (p + 2) - 48)).2)) z) := by
          intro fi st ti2 hF hp h41 hst hps hsl ht2
          have hN := lv_ord hT hL hp h41
          have hd : Rng (oDo Ln f (T s p) (T s (p + 1) - 48) (T s (p + 2) - 48)).1 ∧ (∀ k, 463 ≤ k → (oDo Ln f (T s p) (T s (p + 1) - 48) (T s (p + 2) - 48)).1 k = f k) ∧ (oDo Ln f (T s p) (T s (p + 1) - 48) (T s (p + 2) - 48)).2 ≤ 1 := by
            refine oDo_ok hR (fun e => ?_) (fun e => ?_)
            · rcases pfa_ord hp t1 a4 h41 with ⟨c, v⟩ | ⟨c, v⟩ | ⟨c, v⟩ | ⟨c, v⟩ | ⟨c, v⟩ | ⟨c, v⟩ <;> omega
            · rcases pfa_ord hp t1 a4 h41 with ⟨c, v⟩ | ⟨c, v⟩ | ⟨c, v⟩ | ⟨c, v⟩ | ⟨c, v⟩ | ⟨c, v⟩ <;> omega
          subst hf
          refine m_run_ord hA h9 (by omega) (by omega) hF (by omega) (by omega) (by omega) hps (m_order hA hj h9 (by omega) hF.1 hF.2.1 hF.2.2.2.1 a1 hT hX hR hp a4 h41 hst hsl) (fun M' hq => ?_)
          obtain ⟨-, ⟨I', A', dp', b1, b2, b3, b4, b5, b6, ⟨e5, e4, e6, e7, e8⟩, b7, b8⟩, b9, -⟩ := hq
          exact ih b1 b5 hd.1 (stk_ord hT hL hS hp h41 e5 e4 e6 e7 e8 b7 b8) b2 (by rw [b3, h10, nI_add]) hN.1 (hX.keep (b6 12 (by omega) (by omega)) (fun k hk => by rw [b5]; exact hd.2.1 k hk)) (by omega) (by omega) (fun k u v => (b4 k u v).trans (hI k u v)) (fun k u v => (b6 k u v).trans (hk k u v)) (hO.tr b9)
        rcases Nat.eq_zero_or_pos ti with e | e
        · obtain ⟨c1, fi, c2⟩ := h1 e
          have ed : d0 = t := by omega
          subst ed
          by_cases hp : Ln s ≤ p
          · rw [if_pos hp]
            refine m_run_pop hA h9 (by omega) (by omega) c2 (by omega) (by omega) (by omega) hp (Nat.le_refl 1) (fun M' hA' hO' => ?_)
            exact ih hA' hf hR h0 rfl h10 a7 hX hn (by omega) (fun k u v => (upd_ne u).trans (hI k u v)) hk (hO.tr hO')
          · rw [if_neg hp]
            by_cases h41 : T s p = 41
            · have := (lv_end hT hL (by omega) h41).1
              omega
            · rw [if_neg h41]
              exact ord c2 (by omega) h41 (Or.inl rfl) (by omega) (Nat.le_refl _) (by omega)
        · obtain ⟨c1, ⟨fi, c2⟩, c3⟩ := h2 e
          have ed : d0 + 1 = t := by omega
          obtain ⟨i1, i2, i3⟩ := lv_in hT hL e
          rw [if_neg (by omega)]
          rw [ed] at c3
          by_cases h41 : T s p = 41
          · obtain ⟨u1, u2, u3, u4⟩ := lv_end hT hL i1 h41
            rw [if_pos h41]
            by_cases ht1 : 1 < ti
            · rw [if_pos ht1] at u3 ⊢
              refine m_run_rep hA h9 (by omega) (by omega) c3 (by omega) (by omega) (by omega) (by omega) ht1 (fun M' hA' hO' => ?_)
              have hA8 : ∀ k i, i ≠ t → (stg (stg A 8 (upd (A 8) t (nI (ti - 1)))) 5 (upd ((stg A 8 (upd (A 8) t (nI (ti - 1)))) 5) t (nI gr))) k i = A k i := by
                intro k i hi
                by_cases k5 : k = 5
                · subst k5
                  rw [stg_eq, upd_ne hi, stg_ne (by decide)]
                · rw [stg_ne k5]
                  by_cases k8 : k = 8
                  · subst k8
                    rw [stg_eq, upd_ne hi]
                  · rw [stg_ne k8]
              refine ih (dp := t + 1) hA' ((stg_ne (by omega)).trans ((stg_ne (by omega)).trans hf)) hR ?_ h9 h10 u3 (hX.keep rfl (fun k _ => by rw [stg_ne (by omega), stg_ne (by omega)])) hn (by show (400 - n) * 10 + (ti - 1 + 1 + lms rest) ≤ w; omega) hI (fun k u v => ((stg_ne (by omega)).trans (stg_ne (by omega))).trans (hk k u v)) (hO.tr hO')
              refine ⟨d0, StkAt.keep rest h0 (fun i hi k _ _ => hA8 k i (by omega)), fun q => absurd q (by omega), fun _ => ⟨by omega, ⟨fi, ?_⟩, ?_⟩⟩
              · rw [u4 ht1, ← u2]
                exact c2.keep (fun k _ _ => hA8 k d0 (by omega))
              · rw [u4 ht1, ed]
                refine ⟨c3.1, ?_, c3.2.2.1, ?_, ?_⟩
                · rw [stg_eq, upd_eq]
                · show A 7 t = nI p
                  rw [c3.2.2.2.1, u2]
                · rw [stg_ne (by decide), stg_eq, upd_eq]
            · rw [if_neg ht1] at u3 ⊢
              refine m_run_pop hA h9 (by omega) (by omega) c3 (by omega) (by omega) (by omega) (by omega) (by omega) (fun M' hA' hO' => ?_)
              refine ih (dp := t) hA' hf hR ?_ rfl h10 u3 hX hn (by show (400 - n) * 10 + (ti - 1 + 1 + lms rest) ≤ w; omega) (fun k u v => (upd_ne u).trans (hI k u v)) hk (hO.tr hO')
              refine ⟨d0, h0, fun _ => ⟨ed.symm, fi, ?_⟩, fun q => absurd q (by omega)⟩
              rw [u2] at c2
              exact c2
          · rw [if_neg h41]
            have := nst_go (g := T s) i1 h41
            have h5 : p + 1 ≤ nst (T s) (Ln s) (p + 1) := nst_le
            exact ord c3 i1 h41 (Or.inr rfl) (by omega) (by omega) a2
theorem m_goRun (hA : MAt M b I A) (hj : j = 1 ∨ j = 2) (hT : TxtsOK T Ln) (hX : TxR A j T Ln) (hs : s < 5) (hf : A j = f) (hR : Rng f) : Runs mX8_goRun [.ref b, .ref (b + j), .int (nI s), .int (nI (Ln s))] M z (RunQ M b j I A (prun T Ln 4001 f [(s, 0, 0, 0)] 0 0) z) := by
  obtain ⟨t1, t2, t3, t4⟩ := hT s hs
  have hao := hA.1
  refine runs_of plX8 rfl (Nat.le_of_ble_eq_true rfl) ?_
  show WP mX8_goRun 0 [some (.ref b), some (.ref (b + j)), some (.int (nI s)), some (.int (nI (Ln s))), none, none] [] M z 0 0 _
  refine g_iconst (v := nI 0) dX8_goRun_0 rfl ?_
  refine g_istore_4 rfl dX8_goRun_1 ?_
  refine g_aload_0 dX8_goRun_3 ?_
  refine g_iconst (v := nI 0) dX8_goRun_4 rfl ?_
  refine g_putI9 dX8_goRun_5 (fX8_102 rfl) hA (fun M1 hA1 n1 => ?_)
  have hao1 := hA1.1
  refine g_aload_0 dX8_goRun_8 ?_
  refine g_iconst (v := nI 0) dX8_goRun_9 rfl ?_
  refine g_putI10 dX8_goRun_10 (fX8_105 rfl) hA1 (fun M2 hA2 n2 => ?_)
  have hao2 := hA2.1
  refine g_aload_0 dX8_goRun_13 ?_
  refine g_iload_2 dX8_goRun_14 ?_
  refine g_iconst (v := nI 0) dX8_goRun_15 rfl ?_
  refine g_iload_3 dX8_goRun_16 ?_
  refine g_iconst (v := nI 1) dX8_goRun_17 rfl ?_
  refine g_v4 dX8_goRun_18 (vX8_130 rfl) rfl hA2.1 (Nat.le_of_ble_eq_true rfl) (Nat.le_of_ble_eq_true rfl) (Nat.le_of_ble_eq_true rfl) (m_push (n := 0) hA2 rfl (by decide)) (fun r M2 z2 hq => ?_) (fun E M2 z2 hq => by obtain ⟨hq, -⟩ := hq; cases hq)
  obtain ⟨hr, ⟨A3, hA3, g4, g5, g6, g7, g8, gk⟩, hO3, rfl⟩ := hq
  cases hr
  refine m_run_l hj hT 4001 (dp := 1) (f := f) hA3 ((gk j (by omega) (by omega) (by omega) (by omega) (by omega)).trans hf) hR ⟨0, rfl, fun _ => ⟨rfl, 0, ?_, ?_, ?_, ?_, ?_⟩, fun q => absurd q (by omega)⟩ rfl rfl ⟨⟨hs, by show 0 < 10; omega, Nat.zero_le _, t3, fun q => absurd q (by show ¬ 0 < 0; omega)⟩, by show s + 0 < 5; omega, trivial⟩ (hX.keep (gk 12 (by omega) (by omega) (by omega) (by omega) (by omega)) (fun k _ => by rw [gk j (by omega) (by omega) (by omega) (by omega) (by omega)])) (by omega) (by show (400 - 0) * 10 + (0 + 1 + 0) ≤ 4001; omega) (fun k u v => (upd_ne u).trans ((upd_ne v).trans (upd_ne u))) (fun k u v => gk k (by omega) (by omega) (by omega) (by omega) (by omega)) (Out.tr (fun q hq => (n2 q (by omega)).trans (n1 q (by omega))) hO3)
  · rw [g4, upd_eq]
  · rw [g5, upd_eq]
  · rw [g6, upd_eq]
  · rw [g7, upd_eq]
  · rw [g8, upd_eq]
end P49
