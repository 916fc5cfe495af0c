section P72
variable {M M0 : Hp} {z b n len i j k c s m lo hi q d hd p : Nat} {f t f0 : Row} {h : Nat → Row} {sv : Nat → Option Row} {g : Nat → Nat} {x y w0 w1 w2 v G : Int32} {Φ : GR → Hp → Nat → Prop} {I I0 I2 : Row} {A A0 A2 : Nat → Row} {xl yl : Int64} {T : Nat → Nat → Nat} {Ln : Nat → Nat}
theorem rdL_le (hlen : len ≤ 120) : ∀ d {p : Nat} {ok : Bool} {G : Int32}, p ≤ len → (rdL A len d p ok G).1 ≤ len
  | 0, _, _, _, h => h
  | d + 1, p, ok, G, h => by
    unfold rdL
    split
    · exact rdL_le hlen d (rdO_le h hlen)
    · exact h
theorem rdA_t (hT : TxtR A g len) (hl : len ≤ 120) (ht : TxOK g len) : (rdA A len).2.1 = true := by
  have e := (rdA_ok hT hl).1.trans ht
  by_cases q : (rdA A len).2.1 = true
  · exact q
  · rw [if_neg q] at e
    have : (rdA A len).1 ≤ len := rdL_le hl 122 (rdO_le (Nat.zero_le _) hl)
    exact absurd e (nI_nm1 (by omega))
theorem rdA_m (hT : TxtR A g len) (hl : len ≤ 120) (ht : TxOK g len) (hs : s < 4) : hasM g len s len 0 = decide (nI s ≤ (rdA A len).2.2) := (rdA_ok hT hl).2 (rdA_t hT hl ht) s (by omega)
theorem MRel.i3 {I1 : Row} (hr : MRel I A f t n h sv len g) (hI : ∀ k, k ≠ 17 → k ≠ 18 → k ≠ 19 → I1 k = I k) : MRel I1 A f t n h sv len g := hr.of (hI 12 (by decide) (by decide) (by decide)) (hI 16 (by decide) (by decide) (by decide)) hr.1 hr.2.1 rfl rfl rfl rfl
def stR (f : Row) (s len : Nat) (g : Nat → Nat) (k : Nat) : Row := fun q => if q = 463 + s then nI len else if 467 + 120 * s ≤ q ∧ q < 467 + 120 * s + k then (if q - (467 + 120 * s) < len then nI (g (q - (467 + 120 * s))) else nI 0) else f q
theorem stR_0 : stR f s len g 0 = upd f (463 + s) (nI len) := by
  funext q
  unfold stR upd
  by_cases e : q = 463 + s
  · rw [if_pos e, if_pos e]
  · rw [if_neg e, if_neg e, if_neg (by omega)]
theorem stR_step (hs : s < 4) (hv : v = if k < len then nI (g k) else nI 0) : upd (stR f s len g k) (467 + 120 * s + k) v = stR f s len g (k + 1) := by
  funext q
  simp only [upd]
  by_cases e : q = 467 + 120 * s + k
  · rw [if_pos e]
    unfold stR
    rw [if_neg (by omega), if_pos (by omega), show q - (467 + 120 * s) = k from by omega, hv]
  · rw [if_neg e]
    unfold stR
    by_cases e2 : q = 463 + s
    · rw [if_pos e2, if_pos e2]
    · rw [if_neg e2, if_neg e2]
      by_cases e3 : 467 + 120 * s ≤ q ∧ q < 467 + 120 * s + k
      · rw [if_pos e3, if_pos (show 467 + 120 * s ≤ q ∧ q < 467 + 120 * s + (k + 1) from by omega)]
      · rw [if_neg e3, if_neg (show ¬ (467 + 120 * s ≤ q ∧ q < 467 + 120 * s + (k + 1)) from by omega)]
theorem n_store_l (hs : s < 4) (hl : len ≤ 120) (h16 : I2 16 = nI len) (hT : TxtR A2 g len) (hk : ∀ M, MAt M b I2 (stg A2 1 (stR f0 s len g 120)) → Out M0 M b 13 → WP mX8_store 108 [some (.ref b), some (.int (nI s)), some (.int (nI 1)), some (.int (nI (120)))] [] M z 0 0 Φ) : ∀ d k {M : Hp}, k + d = 120 → MAt M b I2 (stg A2 1 (stR f0 s len g k)) → Out M0 M b 13 → WP mX8_store 63 [some (.ref b), some (.int (nI s)), some (.int (nI 1)), some (.int (nI (k)))] [] M z 0 0 Φ := by
  intro d
  induction d with
  | zero =>
    intro k M hkd hA hO
    obtain rfl : k = 120 := by omega
    refine g_iload_3 dX8_store_63 ?_
    refine g_bipush (v := nI 120) dX8_store_64 rfl ?_
    refine g_icmp_geN (tgt := 108) dX8_store_66 (by decide) (by omega) (by omega) (fun _ => ?_) (fun h66 => absurd h66 (by omega))
    exact hk M hA hO
  | succ d ih =>
    intro k M hkd hA hO
    refine g_iload_3 dX8_store_63 ?_
    refine g_bipush (v := nI 120) dX8_store_64 rfl ?_
    refine g_icmp_geN (tgt := 108) dX8_store_66 (by decide) (by omega) (by omega) (fun h66 => absurd h66 (by omega)) (fun _ => ?_)
    refine g_aload_0 dX8_store_69 ?_
    refine g_get dX8_store_70 (fX8_7 rfl) hA.1 rfl ?_
    refine g_sipush (v := nI 467) dX8_store_73 rfl ?_
    refine g_bipush (v := nI 120) dX8_store_76 rfl ?_
    refine g_iload_1 dX8_store_78 ?_
    refine g_imulN dX8_store_79 ?_
    refine g_iaddN dX8_store_80 ?_
    refine g_iload_3 dX8_store_81 ?_
    refine g_iaddN dX8_store_82 ?_
    refine g_iload_3 dX8_store_83 ?_
    refine g_aload_0 dX8_store_84 ?_
    refine g_get dX8_store_85 (fX8_146 rfl) hA.1 rfl ?_
    rw [h16]
    refine g_icmp_geN (tgt := 100) dX8_store_88 (by decide) (by omega) (by omega) (fun h88 => ?_) (fun h88 => ?_)
    · refine g_iconst (v := nI 0) dX8_store_100 rfl ?_
      refine g_iastN dX8_store_101 hA.2.1 (by omega) (by decide) ?_
      have hA9 := hA.a1 (g := stR f0 s len g (k + 1))
      rw [stg_stg] at hA9
      rw [show stg A2 1 (stR f0 s len g k) 1 = stR f0 s len g k from stg_eq, stR_step hs (by first | exact (if_pos h88).symm | exact (if_neg (by omega)).symm)]
      refine g_iincN_3 (q := 1) rfl dX8_store_102 rfl ?_
      refine g_goto (tgt := 63) dX8_store_105 (by decide) ?_
      exact ih (k + 1) (by omega) hA9 (hO.tr (Out.put (by omega) (by omega)))
    · refine g_aload_0 dX8_store_91 ?_
      refine g_get dX8_store_92 (fX8_44 rfl) hA.1 rfl ?_
      refine g_iload_3 dX8_store_95 ?_
      refine g_ialdN dX8_store_96 hA.2.2.2.2.2.2.2.2.2.2.2.2 (by omega) (by decide) ?_
      rw [show stg A2 1 (stR f0 s len g k) 12 k = nI (g k) from (congrFun (stg_ne (by decide)) _).trans (hT.1 k h88)]
      refine g_goto (tgt := 101) dX8_store_97 (by decide) ?_
      refine g_iastN dX8_store_101 hA.2.1 (by omega) (by decide) ?_
      have hA9 := hA.a1 (g := stR f0 s len g (k + 1))
      rw [stg_stg] at hA9
      rw [show stg A2 1 (stR f0 s len g k) 1 = stR f0 s len g k from stg_eq, stR_step hs (by first | exact (if_pos h88).symm | exact (if_neg (by omega)).symm)]
      refine g_iincN_3 (q := 1) rfl dX8_store_102 rfl ?_
      refine g_goto (tgt := 63) dX8_store_105 (by decide) ?_
      exact ih (k + 1) (by omega) hA9 (hO.tr (Out.put (by omega) (by omega)))
theorem n_store_x1 (hA : MAt M b I A) (hr : MRel I A f t n h sv len g) (hx : x < 0 ∨ nI 4 ≤ x) : Runs mX8_store [.ref b, .int x] M z (MoQ (some (.int (nI 0))) 1 M b (f) (t) n h sv len g z) := by
  obtain ⟨rfl, rfl, h12, hn14, h9, ⟨h11, h10⟩, h16, hl, hT⟩ := id hr
  refine runs_of plX8 rfl (Nat.le_of_ble_eq_true rfl) ?_
  show WP mX8_store 0 [some (.ref b), some (.int x), none, none] [] M z 0 0 _
  refine g_iload_1 dX8_store_0 ?_
  refine g_s1_1 dX8_store_1 (sX8_216 rfl) rfl (Nat.le_of_ble_eq_true rfl) ⟨rfl, rfl⟩ (Nat.le_of_ble_eq_true rfl) (Nat.le_of_ble_eq_true rfl) (m_isMot_x hx) ?_
  refine g_istore_2 rfl dX8_store_4 ?_
  refine g_aload_0 dX8_store_5 ?_
  refine g_iload_2 dX8_store_6 ?_
  refine g_if_neB (tgt := 14) dX8_store_7 (by decide)  (fun h7 => absurd h7 (by decide)) (fun _ => ?_)
  refine g_iconst (v := nI 1) dX8_store_10 rfl ?_
  refine g_goto (tgt := 35) dX8_store_11 (by decide) ?_
  refine g_v1 dX8_store_35 (vX8_149 rfl) rfl hA.1 (Nat.le_of_ble_eq_true rfl) (Nat.le_of_ble_eq_true rfl) (Nat.le_of_ble_eq_true rfl) (m_refk hA (by omega) (by omega)) (fun r1 M1 z1 hq1 => ?_) (fun E M2 z2 hq => by obtain ⟨hq, -⟩ := hq; cases hq)
  obtain ⟨hr1, hA1, hO1, hz1⟩ := hq1
  cases hr1
  subst hz1
  refine g_if_eqB (tgt := 43) dX8_store_38 (by decide)  (fun h38 => absurd h38 (by decide)) (fun _ => ?_)
  refine g_iconst (v := nI 0) dX8_store_41 rfl ?_
  exact g_ireturn rfl rfl dX8_store_42 (Nat.le_of_ble_eq_true rfl) (Nat.le_of_ble_eq_true rfl) ⟨rfl, ⟨_, _, hA1, upd_eq, hr.i0⟩, hO1, rfl⟩
theorem n_store_x2 (hA : MAt M b I A) (hr : MRel I A f t n h sv len g) (hs : s < 4) (ht : ¬ TxOK g len) : Runs mX8_store [.ref b, .int (nI s)] M z (MoQ (some (.int (nI 0))) 2 M b (f) (t) n h sv len g z) := by
  obtain ⟨rfl, rfl, h12, hn14, h9, ⟨h11, h10⟩, h16, hl, hT⟩ := id hr
  refine runs_of plX8 rfl (Nat.le_of_ble_eq_true rfl) ?_
  show WP mX8_store 0 [some (.ref b), some (.int (nI s)), none, none] [] M z 0 0 _
  refine g_iload_1 dX8_store_0 ?_
  refine g_s1_1 dX8_store_1 (sX8_216 rfl) rfl (Nat.le_of_ble_eq_true rfl) ⟨rfl, rfl⟩ (Nat.le_of_ble_eq_true rfl) (Nat.le_of_ble_eq_true rfl) (m_isMot_ok hs) ?_
  refine g_istore_2 rfl dX8_store_4 ?_
  refine g_aload_0 dX8_store_5 ?_
  refine g_iload_2 dX8_store_6 ?_
  refine g_if_neB (tgt := 14) dX8_store_7 (by decide)  (fun _ => ?_) (fun h7 => absurd h7 (by decide))
  refine g_aload_0 dX8_store_14 ?_
  refine g_v0 dX8_store_15 (vX8_183 rfl) rfl hA.1 (Nat.le_of_ble_eq_true rfl) (Nat.le_of_ble_eq_true rfl) (Nat.le_of_ble_eq_true rfl) (m_readAll hA h16 hl) (fun r9 M9 z9 hq9 => ?_) (fun E M2 z2 hq => by obtain ⟨hq, -⟩ := hq; cases hq)
  obtain ⟨hr9, ⟨I9, hA9, h19, hI9⟩, hO9, hz9⟩ := hq9
  cases hr9
  subst hz9
  rw [(rdA_ok hT hl).1]
  refine g_iconst (v := -1) dX8_store_18 rfl ?_
  refine g_icmp_ne (tgt := 30) dX8_store_19 (by decide)  (fun _ => ?_) (fun h19 => absurd h19 ht)
  refine g_iconst (v := nI 2) dX8_store_30 rfl ?_
  refine g_goto (tgt := 35) dX8_store_31 (by decide) ?_
  refine g_v1 dX8_store_35 (vX8_149 rfl) rfl hA9.1 (Nat.le_of_ble_eq_true rfl) (Nat.le_of_ble_eq_true rfl) (Nat.le_of_ble_eq_true rfl) (m_refk hA9 (by omega) (by omega)) (fun r1 M1 z1 hq1 => ?_) (fun E M2 z2 hq => by obtain ⟨hq, -⟩ := hq; cases hq)
  obtain ⟨hr1, hA1, hO1, hz1⟩ := hq1
  cases hr1
  subst hz1
  refine g_if_eqB (tgt := 43) dX8_store_38 (by decide)  (fun h38 => absurd h38 (by decide)) (fun _ => ?_)
  refine g_iconst (v := nI 0) dX8_store_41 rfl ?_
  exact g_ireturn rfl rfl dX8_store_42 (Nat.le_of_ble_eq_true rfl) (Nat.le_of_ble_eq_true rfl) ⟨rfl, ⟨_, _, hA1, upd_eq, (hr.i3 hI9).i0⟩, hO9.tr hO1, rfl⟩
theorem n_store_x3 (hA : MAt M b I A) (hr : MRel I A f t n h sv len g) (hs : s < 4) (ht : TxOK g len) (hm : hasM g len s len 0 = true) : Runs mX8_store [.ref b, .int (nI s)] M z (MoQ (some (.int (nI 0))) 2 M b (f) (t) n h sv len g z) := by
  obtain ⟨rfl, rfl, h12, hn14, h9, ⟨h11, h10⟩, h16, hl, hT⟩ := id hr
  refine runs_of plX8 rfl (Nat.le_of_ble_eq_true rfl) ?_
  show WP mX8_store 0 [some (.ref b), some (.int (nI s)), none, none] [] M z 0 0 _
  refine g_iload_1 dX8_store_0 ?_
  refine g_s1_1 dX8_store_1 (sX8_216 rfl) rfl (Nat.le_of_ble_eq_true rfl) ⟨rfl, rfl⟩ (Nat.le_of_ble_eq_true rfl) (Nat.le_of_ble_eq_true rfl) (m_isMot_ok hs) ?_
  refine g_istore_2 rfl dX8_store_4 ?_
  refine g_aload_0 dX8_store_5 ?_
  refine g_iload_2 dX8_store_6 ?_
  refine g_if_neB (tgt := 14) dX8_store_7 (by decide)  (fun _ => ?_) (fun h7 => absurd h7 (by decide))
  refine g_aload_0 dX8_store_14 ?_
  refine g_v0 dX8_store_15 (vX8_183 rfl) rfl hA.1 (Nat.le_of_ble_eq_true rfl) (Nat.le_of_ble_eq_true rfl) (Nat.le_of_ble_eq_true rfl) (m_readAll hA h16 hl) (fun r9 M9 z9 hq9 => ?_) (fun E M2 z2 hq => by obtain ⟨hq, -⟩ := hq; cases hq)
  obtain ⟨hr9, ⟨I9, hA9, h19r, hI9⟩, hO9, hz9⟩ := hq9
  cases hr9
  subst hz9
  rw [(rdA_ok hT hl).1]
  refine g_iconst (v := -1) dX8_store_18 rfl ?_
  refine g_icmp_ne (tgt := 30) dX8_store_19 (by decide)  (fun h19 => absurd ht h19) (fun _ => ?_)
  refine g_aload_0 dX8_store_22 ?_
  refine g_get dX8_store_23 (fX8_170 rfl) hA9.1 rfl ?_
  rw [h19r]
  refine g_iload_1 dX8_store_26 ?_
  refine g_icmp_lt (tgt := 34) dX8_store_27 (by decide)  (fun h27 => absurd h27 (Int32.not_lt.mpr (of_decide_eq_true ((rdA_m hT hl ht hs).symm.trans hm)))) (fun _ => ?_)
  refine g_iconst (v := nI 2) dX8_store_30 rfl ?_
  refine g_goto (tgt := 35) dX8_store_31 (by decide) ?_
  refine g_v1 dX8_store_35 (vX8_149 rfl) rfl hA9.1 (Nat.le_of_ble_eq_true rfl) (Nat.le_of_ble_eq_true rfl) (Nat.le_of_ble_eq_true rfl) (m_refk hA9 (by omega) (by omega)) (fun r1 M1 z1 hq1 => ?_) (fun E M2 z2 hq => by obtain ⟨hq, -⟩ := hq; cases hq)
  obtain ⟨hr1, hA1, hO1, hz1⟩ := hq1
  cases hr1
  subst hz1
  refine g_if_eqB (tgt := 43) dX8_store_38 (by decide)  (fun h38 => absurd h38 (by decide)) (fun _ => ?_)
  refine g_iconst (v := nI 0) dX8_store_41 rfl ?_
  exact g_ireturn rfl rfl dX8_store_42 (Nat.le_of_ble_eq_true rfl) (Nat.le_of_ble_eq_true rfl) ⟨rfl, ⟨_, _, hA1, upd_eq, (hr.i3 hI9).i0⟩, hO9.tr hO1, rfl⟩
theorem n_store (hA : MAt M b I A) (hr : MRel I A f t n h sv len g) (hs : s < 4) (ht : TxOK g len) (hm : hasM g len s len 0 = false) : Runs mX8_store [.ref b, .int (nI s)] M z (MoQ (some (.int (nI len))) 0 M b (f_store f s len g) (t) (remN n) (remH n h f) sv len g z) := by
  obtain ⟨rfl, rfl, h12, hn14, h9, ⟨h11, h10⟩, h16, hl, hT⟩ := id hr
  refine runs_of plX8 rfl (Nat.le_of_ble_eq_true rfl) ?_
  show WP mX8_store 0 [some (.ref b), some (.int (nI s)), none, none] [] M z 0 0 _
  refine g_iload_1 dX8_store_0 ?_
  refine g_s1_1 dX8_store_1 (sX8_216 rfl) rfl (Nat.le_of_ble_eq_true rfl) ⟨rfl, rfl⟩ (Nat.le_of_ble_eq_true rfl) (Nat.le_of_ble_eq_true rfl) (m_isMot_ok hs) ?_
  refine g_istore_2 rfl dX8_store_4 ?_
  refine g_aload_0 dX8_store_5 ?_
  refine g_iload_2 dX8_store_6 ?_
  refine g_if_neB (tgt := 14) dX8_store_7 (by decide)  (fun _ => ?_) (fun h7 => absurd h7 (by decide))
  refine g_aload_0 dX8_store_14 ?_
  refine g_v0 dX8_store_15 (vX8_183 rfl) rfl hA.1 (Nat.le_of_ble_eq_true rfl) (Nat.le_of_ble_eq_true rfl) (Nat.le_of_ble_eq_true rfl) (m_readAll hA h16 hl) (fun r9 M9 z9 hq9 => ?_) (fun E M2 z2 hq => by obtain ⟨hq, -⟩ := hq; cases hq)
  obtain ⟨hr9, ⟨I9, hA9, h19r, hI9⟩, hO9, hz9⟩ := hq9
  cases hr9
  subst hz9
  rw [(rdA_ok hT hl).1]
  refine g_iconst (v := -1) dX8_store_18 rfl ?_
  refine g_icmp_ne (tgt := 30) dX8_store_19 (by decide)  (fun h19 => absurd ht h19) (fun _ => ?_)
  refine g_aload_0 dX8_store_22 ?_
  refine g_get dX8_store_23 (fX8_170 rfl) hA9.1 rfl ?_
  rw [h19r]
  refine g_iload_1 dX8_store_26 ?_
  refine g_icmp_lt (tgt := 34) dX8_store_27 (by decide)  (fun _ => ?_) (fun h27 => absurd (Int32.not_le.mp (of_decide_eq_false ((rdA_m hT hl ht hs).symm.trans hm))) h27)
  refine g_iconst (v := nI 0) dX8_store_34 rfl ?_
  refine g_v1 dX8_store_35 (vX8_149 rfl) rfl hA9.1 (Nat.le_of_ble_eq_true rfl) (Nat.le_of_ble_eq_true rfl) (Nat.le_of_ble_eq_true rfl) (m_ref0 hA9) (fun r1 M1 z1 hq1 => ?_) (fun E M2 z2 hq => by obtain ⟨hq, -⟩ := hq; cases hq)
  obtain ⟨hr1, hA1, hO1, hz1⟩ := hq1
  cases hr1
  subst hz1
  refine g_if_eqB (tgt := 43) dX8_store_38 (by decide)  (fun _ => ?_) (fun h38 => absurd h38 (by decide))
  refine g_aload_0 dX8_store_43 ?_
  refine g_v0 dX8_store_44 (vX8_141 rfl) rfl hA1.1 (Nat.le_of_ble_eq_true rfl) (Nat.le_of_ble_eq_true rfl) (Nat.le_of_ble_eq_true rfl) (m_remember hA1 (by rw [upd_ne (by decide)]; exact (hI9 12 (by decide) (by decide) (by decide)).trans h12) hn14) (fun r2 M2 z2 hq2 => ?_) (fun E M2 z2 hq => by obtain ⟨hq, -⟩ := hq; cases hq)
  obtain ⟨hr2, hA2, hO2, hz2⟩ := hq2
  cases hr2
  subst hz2
  have hr2 := ((hr.i3 hI9).i0 (v := nI 0)).rem
  have hO2 := (hO9.tr hO1).tr hO2
  have h02 : upd (upd I9 0 (nI 0)) 12 (nI (remN n)) 0 = nI 0 := (upd_ne (by decide)).trans upd_eq
  have h162 : upd (upd I9 0 (nI 0)) 12 (nI (remN n)) 16 = nI len := (upd_ne (by decide)).trans ((upd_ne (by decide)).trans ((hI9 16 (by decide) (by decide) (by decide)).trans h16))
  have hR2 : RowAt M2 (b + 1) (A 1) := hA2.2.1
  refine g_aload_0 dX8_store_47 ?_
  refine g_get dX8_store_48 (fX8_7 rfl) hA2.1 rfl ?_
  refine g_sipush (v := nI 463) dX8_store_51 rfl ?_
  refine g_iload_1 dX8_store_54 ?_
  refine g_iaddN dX8_store_55 ?_
  refine g_aload_0 dX8_store_56 ?_
  refine g_get dX8_store_57 (fX8_146 rfl) hA2.1 rfl ?_
  rw [h162]
  refine g_iastN dX8_store_60 hR2 (by omega) (by decide) ?_
  have hA3 := hA2.a1 (g := upd (A 1) (463 + s) (nI len))
  rw [← stR_0 (g := g)] at hA3 ⊢
  refine g_iconst (v := nI 0) dX8_store_61 rfl ?_
  refine g_istore_3 rfl dX8_store_62 ?_
  refine n_store_l hs hl h162 (show TxtR (stg A 9 (remB (A 9) (A 1) n)) g len from hT) (fun M4 hA4 hO4 => ?_) 120 0 rfl hA3 (hO2.tr (Out.put (by omega) (by omega)))
  refine g_aload_0 dX8_store_108 ?_
  refine g_get dX8_store_109 (fX8_146 rfl) hA4.1 rfl ?_
  rw [h162]
  exact g_ireturn rfl rfl dX8_store_112 (Nat.le_of_ble_eq_true rfl) (Nat.le_of_ble_eq_true rfl) ⟨rfl, ⟨_, _, hA4, h02, hr2.r1⟩, hO4, rfl⟩
theorem n_run_x1 (hA : MAt M b I A) (hr : MRel I A f t n h sv len g) (hx : x < 0 ∨ nI 4 ≤ x) : Runs mX8_run [.ref b, .int x] M z (MoQ (some (.int (nI 0))) 1 M b (f) (t) n h sv len g z) := by
  obtain ⟨rfl, rfl, h12, hn14, h9, ⟨h11, h10⟩, h16, hl, hT⟩ := id hr
  refine runs_of plX8 rfl (Nat.le_of_ble_eq_true rfl) ?_
  show WP mX8_run 0 [some (.ref b), some (.int x), none] [] M z 0 0 _
  refine g_iload_1 dX8_run_0 ?_
  refine g_s1_1 dX8_run_1 (sX8_216 rfl) rfl (Nat.le_of_ble_eq_true rfl) ⟨rfl, rfl⟩ (Nat.le_of_ble_eq_true rfl) (Nat.le_of_ble_eq_true rfl) (m_isMot_x hx) ?_
  refine g_istore_2 rfl dX8_run_4 ?_
  refine g_aload_0 dX8_run_5 ?_
  refine g_iload_2 dX8_run_6 ?_
  refine g_if_neB (tgt := 14) dX8_run_7 (by decide)  (fun h7 => absurd h7 (by decide)) (fun _ => ?_)
  refine g_iconst (v := nI 1) dX8_run_10 rfl ?_
  refine g_goto (tgt := 32) dX8_run_11 (by decide) ?_
  refine g_v1 dX8_run_32 (vX8_149 rfl) rfl hA.1 (Nat.le_of_ble_eq_true rfl) (Nat.le_of_ble_eq_true rfl) (Nat.le_of_ble_eq_true rfl) (m_refk hA (by omega) (by omega)) (fun r1 M1 z1 hq1 => ?_) (fun E M2 z2 hq => by obtain ⟨hq, -⟩ := hq; cases hq)
  obtain ⟨hr1, hA1, hO1, hz1⟩ := hq1
  cases hr1
  subst hz1
  refine g_if_eqB (tgt := 40) dX8_run_35 (by decide)  (fun h35 => absurd h35 (by decide)) (fun _ => ?_)
  refine g_iconst (v := nI 0) dX8_run_38 rfl ?_
  exact g_ireturn rfl rfl dX8_run_39 (Nat.le_of_ble_eq_true rfl) (Nat.le_of_ble_eq_true rfl) ⟨rfl, ⟨_, _, hA1, upd_eq, hr.i0⟩, hO1, rfl⟩
theorem n_run_x2 (hA : MAt M b I A) (hr : MRel I A f t n h sv len g) (hs : s < 4) (hM : MotOK f) (h0 : mLn f s = 0) : Runs mX8_run [.ref b, .int (nI s)] M z (MoQ (some (.int (nI 0))) 2 M b (f) (t) n h sv len g z) := by
  obtain ⟨rfl, rfl, h12, hn14, h9, ⟨h11, h10⟩, h16, hl, hT⟩ := id hr
  have hm8 := (hM s hs).1.2
  refine runs_of plX8 rfl (Nat.le_of_ble_eq_true rfl) ?_
  show WP mX8_run 0 [some (.ref b), some (.int (nI s)), none] [] M z 0 0 _
  refine g_iload_1 dX8_run_0 ?_
  refine g_s1_1 dX8_run_1 (sX8_216 rfl) rfl (Nat.le_of_ble_eq_true rfl) ⟨rfl, rfl⟩ (Nat.le_of_ble_eq_true rfl) (Nat.le_of_ble_eq_true rfl) (m_isMot_ok hs) ?_
  refine g_istore_2 rfl dX8_run_4 ?_
  refine g_aload_0 dX8_run_5 ?_
  refine g_iload_2 dX8_run_6 ?_
  refine g_if_neB (tgt := 14) dX8_run_7 (by decide)  (fun _ => ?_) (fun h7 => absurd h7 (by decide))
  refine g_aload_0 dX8_run_14 ?_
  refine g_get dX8_run_15 (fX8_7 rfl) hA.1 rfl ?_
  refine g_sipush (v := nI 463) dX8_run_18 rfl ?_
  refine g_iload_1 dX8_run_21 ?_
  refine g_iaddN dX8_run_22 ?_
  refine g_ialdN dX8_run_23 hA.2.1 (by omega) (by decide) ?_
  rw [(hM s hs).1.1]
  refine g_if_neN (tgt := 31) dX8_run_24 (by decide) (by omega) (fun h24 => absurd h0 h24) (fun _ => ?_)
  refine g_iconst (v := nI 2) dX8_run_27 rfl ?_
  refine g_goto (tgt := 32) dX8_run_28 (by decide) ?_
  refine g_v1 dX8_run_32 (vX8_149 rfl) rfl hA.1 (Nat.le_of_ble_eq_true rfl) (Nat.le_of_ble_eq_true rfl) (Nat.le_of_ble_eq_true rfl) (m_refk hA (by omega) (by omega)) (fun r1 M1 z1 hq1 => ?_) (fun E M2 z2 hq => by obtain ⟨hq, -⟩ := hq; cases hq)
  obtain ⟨hr1, hA1, hO1, hz1⟩ := hq1
  cases hr1
  subst hz1
  refine g_if_eqB (tgt := 40) dX8_run_35 (by decide)  (fun h35 => absurd h35 (by decide)) (fun _ => ?_)
  refine g_iconst (v := nI 0) dX8_run_38 rfl ?_
  exact g_ireturn rfl rfl dX8_run_39 (Nat.le_of_ble_eq_true rfl) (Nat.le_of_ble_eq_true rfl) ⟨rfl, ⟨_, _, hA1, upd_eq, hr.i0⟩, hO1, rfl⟩
theorem n_run (hA : MAt M b I A) (hr : MRel I A f t n h sv len g) (hI : Rng f) (hs : s < 4) (hg : CharsOK g) (hM : MotOK f) (h0 : 0 < mLn f s) : Runs mX8_run [.ref b, .int (nI s)] M z (MoQ (some (.int (nI (prun (TT f g) (LL' f 0) 4001 f [(s, 0, 0, 0)] 0 0).2))) 0 M b ((prun (TT f g) (LL' f 0) 4001 f [(s, 0, 0, 0)] 0 0).1) (t) (remN n) (remH n h f) sv len g z) := by
  obtain ⟨rfl, rfl, h12, hn14, h9, ⟨h11, h10⟩, h16, hl, hT⟩ := id hr
  have hm8 := (hM s hs).1.2
  refine runs_of plX8 rfl (Nat.le_of_ble_eq_true rfl) ?_
  show WP mX8_run 0 [some (.ref b), some (.int (nI s)), none] [] M z 0 0 _
  refine g_iload_1 dX8_run_0 ?_
  refine g_s1_1 dX8_run_1 (sX8_216 rfl) rfl (Nat.le_of_ble_eq_true rfl) ⟨rfl, rfl⟩ (Nat.le_of_ble_eq_true rfl) (Nat.le_of_ble_eq_true rfl) (m_isMot_ok hs) ?_
  refine g_istore_2 rfl dX8_run_4 ?_
  refine g_aload_0 dX8_run_5 ?_
  refine g_iload_2 dX8_run_6 ?_
  refine g_if_neB (tgt := 14) dX8_run_7 (by decide)  (fun _ => ?_) (fun h7 => absurd h7 (by decide))
  refine g_aload_0 dX8_run_14 ?_
  refine g_get dX8_run_15 (fX8_7 rfl) hA.1 rfl ?_
  refine g_sipush (v := nI 463) dX8_run_18 rfl ?_
  refine g_iload_1 dX8_run_21 ?_
  refine g_iaddN dX8_run_22 ?_
  refine g_ialdN dX8_run_23 hA.2.1 (by omega) (by decide) ?_
  rw [(hM s hs).1.1]
  refine g_if_neN (tgt := 31) dX8_run_24 (by decide) (by omega) (fun _ => ?_) (fun h24 => absurd h24 (by unfold mLn at h0; omega))
  refine g_iconst (v := nI 0) dX8_run_31 rfl ?_
  refine g_v1 dX8_run_32 (vX8_149 rfl) rfl hA.1 (Nat.le_of_ble_eq_true rfl) (Nat.le_of_ble_eq_true rfl) (Nat.le_of_ble_eq_true rfl) (m_ref0 hA) (fun r1 M1 z1 hq1 => ?_) (fun E M2 z2 hq => by obtain ⟨hq, -⟩ := hq; cases hq)
  obtain ⟨hr1, hA1, hO1, hz1⟩ := hq1
  cases hr1
  subst hz1
  refine g_if_eqB (tgt := 40) dX8_run_35 (by decide)  (fun _ => ?_) (fun h35 => absurd h35 (by decide))
  refine g_aload_0 dX8_run_40 ?_
  refine g_v0 dX8_run_41 (vX8_141 rfl) rfl hA1.1 (Nat.le_of_ble_eq_true rfl) (Nat.le_of_ble_eq_true rfl) (Nat.le_of_ble_eq_true rfl) (m_remember hA1 (by rw [upd_ne (by decide)]; exact h12) hn14) (fun r2 M2 z2 hq2 => ?_) (fun E M2 z2 hq => by obtain ⟨hq, -⟩ := hq; cases hq)
  obtain ⟨hr2, hA2, hO2, hz2⟩ := hq2
  cases hr2
  subst hz2
  have hr2 := (hr.i0 (v := nI 0)).rem
  have hR2 : RowAt M2 (b + 1) (A 1) := hA2.2.1
  have hO2 := hO1.tr hO2
  have h02 : upd (upd I 0 (nI 0)) 12 (nI (remN n)) 0 = nI 0 := (upd_ne (by decide)).trans upd_eq
  refine g_aload_0 dX8_run_44 ?_
  refine g_aload_0 dX8_run_45 ?_
  refine g_get dX8_run_46 (fX8_7 rfl) hA2.1 rfl ?_
  refine g_iload_1 dX8_run_49 ?_
  refine g_aload_0 dX8_run_50 ?_
  refine g_get dX8_run_51 (fX8_7 rfl) hA2.1 rfl ?_
  refine g_sipush (v := nI 463) dX8_run_54 rfl ?_
  refine g_iload_1 dX8_run_57 ?_
  refine g_iaddN dX8_run_58 ?_
  refine g_ialdN dX8_run_59 hR2 (by omega) (by decide) ?_
  rw [show A 1 (463 + s) = nI (LL' (A 1) 0 s) from (hM s hs).1.1.trans (congrArg nI (if_neg (by omega)).symm)]
  refine g_v3 dX8_run_60 (vX8_239 rfl) rfl hA2.1 (Nat.le_of_ble_eq_true rfl) (Nat.le_of_ble_eq_true rfl) (Nat.le_of_ble_eq_true rfl) (m_goRun (T := TT (A 1) g) (Ln := LL' (A 1) 0) hA2 (Or.inl rfl) (hM.txts hg (by omega) (Or.inl rfl)) (hM.txr (A := stg A 9 (remB (A 9) (A 1) n)) (l := 0) (g := g) rfl (fun i hi => absurd hi (by omega))) (by omega) rfl hI) (fun r3 M3 z3 hq3 => ?_) (fun E M2 z2 hq => by obtain ⟨hq, -⟩ := hq; cases hq)
  obtain ⟨hr3, ⟨I3, A3, hA3, e3, hI3, hk3⟩, hO3, hz3⟩ := hq3
  cases hr3
  subst hz3
  exact g_ireturn rfl rfl dX8_run_63 (Nat.le_of_ble_eq_true rfl) (Nat.le_of_ble_eq_true rfl) ⟨rfl, ⟨I3, A3, hA3, (hI3 0 (by decide) (by decide)).trans h02, hr2.of (hI3 12 (by decide) (by decide)) (hI3 16 (by decide) (by decide)) e3 ((hk3 2 (by decide) (by decide)).trans hr2.2.1) (hk3 9 (by decide) (by decide)) (hk3 10 (by decide) (by decide)) (hk3 11 (by decide) (by decide)) (hk3 12 (by decide) (by decide))⟩, hO2.tr hO3, rfl⟩
theorem n_runText_x1 (hA : MAt M b I A) (hr : MRel I A f t n h sv len g) (ht : ¬ TxOK g len) : Runs mX8_runText [.ref b] M z (MoQ (some (.int (nI 0))) 1 M b (f) (t) n h sv len g z) := by
  obtain ⟨rfl, rfl, h12, hn14, h9, ⟨h11, h10⟩, h16, hl, hT⟩ := id hr
  refine runs_of plX8 rfl (Nat.le_of_ble_eq_true rfl) ?_
  show WP mX8_runText 0 [some (.ref b)] [] M z 0 0 _
  refine g_aload_0 dX8_runText_0 ?_
  refine g_aload_0 dX8_runText_1 ?_
  refine g_v0 dX8_runText_2 (vX8_183 rfl) rfl hA.1 (Nat.le_of_ble_eq_true rfl) (Nat.le_of_ble_eq_true rfl) (Nat.le_of_ble_eq_true rfl) (m_readAll hA h16 hl) (fun r9 M9 z9 hq9 => ?_) (fun E M2 z2 hq => by obtain ⟨hq, -⟩ := hq; cases hq)
  obtain ⟨hr9, ⟨I9, hA9, h19, hI9⟩, hO9, hz9⟩ := hq9
  cases hr9
  subst hz9
  rw [(rdA_ok hT hl).1]
  refine g_iconst (v := -1) dX8_runText_5 rfl ?_
  refine g_icmp_ne (tgt := 13) dX8_runText_6 (by decide)  (fun _ => ?_) (fun h6 => absurd h6 ht)
  refine g_iconst (v := nI 1) dX8_runText_13 rfl ?_
  refine g_v1 dX8_runText_14 (vX8_149 rfl) rfl hA9.1 (Nat.le_of_ble_eq_true rfl) (Nat.le_of_ble_eq_true rfl) (Nat.le_of_ble_eq_true rfl) (m_refk hA9 (by omega) (by omega)) (fun r1 M1 z1 hq1 => ?_) (fun E M2 z2 hq => by obtain ⟨hq, -⟩ := hq; cases hq)
  obtain ⟨hr1, hA1, hO1, hz1⟩ := hq1
  cases hr1
  subst hz1
  refine g_if_eqB (tgt := 22) dX8_runText_17 (by decide)  (fun h17 => absurd h17 (by decide)) (fun _ => ?_)
  refine g_iconst (v := nI 0) dX8_runText_20 rfl ?_
  exact g_ireturn rfl rfl dX8_runText_21 (Nat.le_of_ble_eq_true rfl) (Nat.le_of_ble_eq_true rfl) ⟨rfl, ⟨_, _, hA1, upd_eq, (hr.i3 hI9).i0⟩, hO9.tr hO1, rfl⟩
theorem n_runText (hA : MAt M b I A) (hr : MRel I A f t n h sv len g) (hI : Rng f) (hg : CharsOK g) (hM : MotOK f) (ht : TxOK g len) : Runs mX8_runText [.ref b] M z (MoQ (some (.int (nI (prun (TT f g) (LL' f len) 4001 f [(4, 0, 0, 0)] 0 0).2))) 0 M b ((prun (TT f g) (LL' f len) 4001 f [(4, 0, 0, 0)] 0 0).1) (t) (remN n) (remH n h f) sv len g z) := by
  obtain ⟨rfl, rfl, h12, hn14, h9, ⟨h11, h10⟩, h16, hl, hT⟩ := id hr
  refine runs_of plX8 rfl (Nat.le_of_ble_eq_true rfl) ?_
  show WP mX8_runText 0 [some (.ref b)] [] M z 0 0 _
  refine g_aload_0 dX8_runText_0 ?_
  refine g_aload_0 dX8_runText_1 ?_
  refine g_v0 dX8_runText_2 (vX8_183 rfl) rfl hA.1 (Nat.le_of_ble_eq_true rfl) (Nat.le_of_ble_eq_true rfl) (Nat.le_of_ble_eq_true rfl) (m_readAll hA h16 hl) (fun r9 M9 z9 hq9 => ?_) (fun E M2 z2 hq => by obtain ⟨hq, -⟩ := hq; cases hq)
  obtain ⟨hr9, ⟨I9, hA9, h19, hI9⟩, hO9, hz9⟩ := hq9
  cases hr9
  subst hz9
  rw [(rdA_ok hT hl).1]
  refine g_iconst (v := -1) dX8_runText_5 rfl ?_
  refine g_icmp_ne (tgt := 13) dX8_runText_6 (by decide)  (fun h6 => absurd ht h6) (fun _ => ?_)
  refine g_iconst (v := nI 0) dX8_runText_9 rfl ?_
  refine g_goto (tgt := 14) dX8_runText_10 (by decide) ?_
  refine g_v1 dX8_runText_14 (vX8_149 rfl) rfl hA9.1 (Nat.le_of_ble_eq_true rfl) (Nat.le_of_ble_eq_true rfl) (Nat.le_of_ble_eq_true rfl) (m_ref0 hA9) (fun r1 M1 z1 hq1 => ?_) (fun E M2 z2 hq => by obtain ⟨hq, -⟩ := hq; cases hq)
  obtain ⟨hr1, hA1, hO1, hz1⟩ := hq1
  cases hr1
  subst hz1
  refine g_if_eqB (tgt := 22) dX8_runText_17 (by decide)  (fun _ => ?_) (fun h17 => absurd h17 (by decide))
  refine g_aload_0 dX8_runText_22 ?_
  refine g_v0 dX8_runText_23 (vX8_141 rfl) rfl hA1.1 (Nat.le_of_ble_eq_true rfl) (Nat.le_of_ble_eq_true rfl) (Nat.le_of_ble_eq_true rfl) (m_remember hA1 (by rw [upd_ne (by decide)]; exact (hI9 12 (by decide) (by decide) (by decide)).trans h12) hn14) (fun r2 M2 z2 hq2 => ?_) (fun E M2 z2 hq => by obtain ⟨hq, -⟩ := hq; cases hq)
  obtain ⟨hr2, hA2, hO2, hz2⟩ := hq2
  cases hr2
  subst hz2
  have hr2 := ((hr.i3 hI9).i0 (v := nI 0)).rem
  have hO2 := (hO9.tr hO1).tr hO2
  have h02 : upd (upd I9 0 (nI 0)) 12 (nI (remN n)) 0 = nI 0 := (upd_ne (by decide)).trans upd_eq
  have h162 : upd (upd I9 0 (nI 0)) 12 (nI (remN n)) 16 = nI len := (upd_ne (by decide)).trans ((upd_ne (by decide)).trans ((hI9 16 (by decide) (by decide) (by decide)).trans h16))
  have hR2 : RowAt M2 (b + 1) (A 1) := hA2.2.1
  refine g_aload_0 dX8_runText_26 ?_
  refine g_aload_0 dX8_runText_27 ?_
  refine g_get dX8_runText_28 (fX8_7 rfl) hA2.1 rfl ?_
  refine g_iconst (v := nI 4) dX8_runText_31 rfl ?_
  refine g_aload_0 dX8_runText_32 ?_
  refine g_get dX8_runText_33 (fX8_146 rfl) hA2.1 rfl ?_
  rw [h162, show nI len = nI (LL' (A 1) len 4) from rfl]
  refine g_v3 dX8_runText_36 (vX8_239 rfl) rfl hA2.1 (Nat.le_of_ble_eq_true rfl) (Nat.le_of_ble_eq_true rfl) (Nat.le_of_ble_eq_true rfl) (m_goRun (T := TT (A 1) g) (Ln := LL' (A 1) len) (s := 4) hA2 (Or.inl rfl) (hM.txts hg hl (Or.inr ht)) (hM.txr (A := stg A 9 (remB (A 9) (A 1) n)) rfl hT.1) (by omega) rfl hI) (fun r3 M3 z3 hq3 => ?_) (fun E M2 z2 hq => by obtain ⟨hq, -⟩ := hq; cases hq)
  obtain ⟨hr3, ⟨I3, A3, hA3, e3, hI3, hk3⟩, hO3, hz3⟩ := hq3
  cases hr3
  subst hz3
  exact g_ireturn rfl rfl dX8_runText_39 (Nat.le_of_ble_eq_true rfl) (Nat.le_of_ble_eq_true rfl) ⟨rfl, ⟨I3, A3, hA3, (hI3 0 (by decide) (by decide)).trans h02, hr2.of (hI3 12 (by decide) (by decide)) (hI3 16 (by decide) (by decide)) e3 ((hk3 2 (by decide) (by decide)).trans hr2.2.1) (hk3 9 (by decide) (by decide)) (hk3 10 (by decide) (by decide)) (hk3 11 (by decide) (by decide)) (hk3 12 (by decide) (by decide))⟩, hO2.tr hO3, rfl⟩
theorem book_row (h9 : ∀ k, k < n + 1 → ∀ i, i < 947 → A 9 (947 * k + i) = h k i) : mx 947 (fun i => A 9 (947 * n + i)) f0 = mx 947 (h n) f0 := by
  funext k
  unfold mx
  by_cases e : k < 947
  · rw [if_pos e, if_pos e]
    exact h9 n (by omega) k e
  · rw [if_neg e, if_neg e]
theorem MRel.back (hr : MRel I A f t (n + 1) h sv len g) : MRel (upd (upd I 0 v) 12 (nI n)) (stg A 1 (mx 947 (h n) f)) (mx 947 (h n) f) t n h sv len g := by
  obtain ⟨h1, h2, h3, h4, h5, ⟨h6, h7⟩, h8, h9, h10, h11⟩ := hr
  exact ⟨stg_eq, (stg_ne (by decide)).trans h2, upd_eq, by omega, fun k hk i hi => by rw [stg_ne (by decide)]; exact h5 k (by omega) i hi, ⟨by rw [stg_ne (by decide)]; exact h6, by rw [stg_ne (by decide)]; exact h7⟩, (upd_ne (by decide)).trans ((upd_ne (by decide)).trans h8), h9, by show ∀ i, i < len → stg A 1 _ 12 i = nI (g i); rw [stg_ne (by decide)]; exact h10, h11⟩
theorem n_undo_l (h12 : I2 12 = nI n) (hn : n < 14) (hk : ∀ M, MAt M b I2 (stg A2 1 (mx (947) (fun i => A2 9 (947 * n + i)) f0)) → Out M0 M b 13 → WP mX8_undo 67 [some (.ref b), some (.int (nI (947)))] [] M z 0 0 Φ) : ∀ d k {M : Hp}, k + d = 947 → MAt M b I2 (stg A2 1 (mx (k) (fun i => A2 9 (947 * n + i)) f0)) → Out M0 M b 13 → WP mX8_undo 33 [some (.ref b), some (.int (nI (k)))] [] M z 0 0 Φ := by
  intro d
  induction d with
  | zero =>
    intro k M hkd hA hO
    obtain rfl : k = 947 := by omega
    refine g_iload_1 dX8_undo_33 ?_
    refine g_sipush (v := nI 947) dX8_undo_34 rfl ?_
    refine g_icmp_geN (tgt := 67) dX8_undo_37 (by decide) (by omega) (by omega) (fun _ => ?_) (fun h37 => absurd h37 (by omega))
    exact hk M hA hO
  | succ d ih =>
    intro k M hkd hA hO
    refine g_iload_1 dX8_undo_33 ?_
    refine g_sipush (v := nI 947) dX8_undo_34 rfl ?_
    refine g_icmp_geN (tgt := 67) dX8_undo_37 (by decide) (by omega) (by omega) (fun h37 => absurd h37 (by omega)) (fun _ => ?_)
    refine g_aload_0 dX8_undo_40 ?_
    refine g_get dX8_undo_41 (fX8_7 rfl) hA.1 rfl ?_
    refine g_iload_1 dX8_undo_44 ?_
    refine g_aload_0 dX8_undo_45 ?_
    refine g_get dX8_undo_46 (fX8_34 rfl) hA.1 rfl ?_
    refine g_sipush (v := nI 947) dX8_undo_49 rfl ?_
    refine g_aload_0 dX8_undo_52 ?_
    refine g_get dX8_undo_53 (fX8_138 rfl) hA.1 rfl ?_
    rw [h12]
    refine g_imulN dX8_undo_56 ?_
    refine g_iload_1 dX8_undo_57 ?_
    refine g_iaddN dX8_undo_58 ?_
    refine g_ialdN dX8_undo_59 hA.2.2.2.2.2.2.2.2.2.1 (by omega) (by decide) ?_
    rw [show stg A2 1 (mx k (fun i => A2 9 (947 * n + i)) f0) 9 (947 * n + k) = A2 9 (947 * n + k) from congrFun (stg_ne (by decide)) _]
    refine g_iastN dX8_undo_60 hA.2.1 (by omega) (by decide) ?_
    have hA9 := hA.a1 (g := mx (k + 1) (fun i => A2 9 (947 * n + i)) f0)
    rw [stg_stg] at hA9
    rw [show stg A2 1 (mx k (fun i => A2 9 (947 * n + i)) f0) 1 = mx k (fun i => A2 9 (947 * n + i)) f0 from stg_eq, show upd (mx k (fun i => A2 9 (947 * n + i)) f0) k _ = mx (k + 1) (fun i => A2 9 (947 * n + i)) f0 from mx_step (f := fun i => A2 9 (947 * n + i))]
    refine g_iincN_1 (q := 1) rfl dX8_undo_61 rfl ?_
    refine g_goto (tgt := 33) dX8_undo_64 (by decide) ?_
    exact ih (k + 1) (by omega) hA9 (hO.tr (Out.put (by omega) (by omega)))
theorem n_undo_x1 (hA : MAt M b I A) (hr : MRel I A f t n h sv len g) (h0 : n = 0) : Runs mX8_undo [.ref b] M z (MoQ (some (.int (nI 0))) 1 M b (f) (t) n h sv len g z) := by
  obtain ⟨rfl, rfl, h12, hn14, h9, ⟨h11, h10⟩, h16, hl, hT⟩ := id hr
  refine runs_of plX8 rfl (Nat.le_of_ble_eq_true rfl) ?_
  show WP mX8_undo 0 [some (.ref b), none] [] M z 0 0 _
  refine g_aload_0 dX8_undo_0 ?_
  refine g_aload_0 dX8_undo_1 ?_
  refine g_get dX8_undo_2 (fX8_138 rfl) hA.1 rfl ?_
  rw [h12]
  refine g_if_neN (tgt := 12) dX8_undo_5 (by decide) (by omega) (fun h5 => absurd h0 h5) (fun _ => ?_)
  refine g_iconst (v := nI 1) dX8_undo_8 rfl ?_
  refine g_goto (tgt := 13) dX8_undo_9 (by decide) ?_
  refine g_v1 dX8_undo_13 (vX8_149 rfl) rfl hA.1 (Nat.le_of_ble_eq_true rfl) (Nat.le_of_ble_eq_true rfl) (Nat.le_of_ble_eq_true rfl) (m_refk hA (by omega) (by omega)) (fun r1 M1 z1 hq1 => ?_) (fun E M2 z2 hq => by obtain ⟨hq, -⟩ := hq; cases hq)
  obtain ⟨hr1, hA1, hO1, hz1⟩ := hq1
  cases hr1
  subst hz1
  refine g_if_eqB (tgt := 21) dX8_undo_16 (by decide)  (fun h16 => absurd h16 (by decide)) (fun _ => ?_)
  refine g_iconst (v := nI 0) dX8_undo_19 rfl ?_
  exact g_ireturn rfl rfl dX8_undo_20 (Nat.le_of_ble_eq_true rfl) (Nat.le_of_ble_eq_true rfl) ⟨rfl, ⟨_, _, hA1, upd_eq, hr.i0⟩, hO1, rfl⟩
theorem n_undo (hA : MAt M b I A) (hr : MRel I A f t (n + 1) h sv len g) : Runs mX8_undo [.ref b] M z (MoQ (some (.int (nI n))) 0 M b (mx 947 (h n) f) (t) n h sv len g z) := by
  obtain ⟨rfl, rfl, h12, hn14, h9, ⟨h11, h10⟩, h16, hl, hT⟩ := id hr
  refine runs_of plX8 rfl (Nat.le_of_ble_eq_true rfl) ?_
  show WP mX8_undo 0 [some (.ref b), none] [] M z 0 0 _
  refine g_aload_0 dX8_undo_0 ?_
  refine g_aload_0 dX8_undo_1 ?_
  refine g_get dX8_undo_2 (fX8_138 rfl) hA.1 rfl ?_
  rw [h12]
  refine g_if_neN (tgt := 12) dX8_undo_5 (by decide) (by omega) (fun _ => ?_) (fun h5 => absurd h5 (by omega))
  refine g_iconst (v := nI 0) dX8_undo_12 rfl ?_
  refine g_v1 dX8_undo_13 (vX8_149 rfl) rfl hA.1 (Nat.le_of_ble_eq_true rfl) (Nat.le_of_ble_eq_true rfl) (Nat.le_of_ble_eq_true rfl) (m_ref0 hA) (fun r1 M1 z1 hq1 => ?_) (fun E M2 z2 hq => by obtain ⟨hq, -⟩ := hq; cases hq)
  obtain ⟨hr1, hA1, hO1, hz1⟩ := hq1
  cases hr1
  subst hz1
  refine g_if_eqB (tgt := 21) dX8_undo_16 (by decide)  (fun _ => ?_) (fun h16 => absurd h16 (by decide))
  refine g_aload_0 dX8_undo_21 ?_
  refine g_dup dX8_undo_22 rfl ?_
  refine g_get dX8_undo_23 (fX8_138 rfl) hA1.1 rfl ?_
  rw [show upd I 0 (nI 0) 12 = nI (n + 1) from (upd_ne (by decide)).trans h12]
  refine g_iconst (v := nI 1) dX8_undo_26 rfl ?_
  refine g_isubN dX8_undo_27 (by omega) ?_
  rw [show n + 1 - 1 = n from rfl]
  refine g_putI12 dX8_undo_28 (fX8_138 rfl) hA1 (fun M2 hA2 n2 => ?_)
  have hao2 := hA2.1
  refine g_iconst (v := nI 0) dX8_undo_31 rfl ?_
  refine g_istore_1 rfl dX8_undo_32 ?_
  refine n_undo_l (n := n) (f0 := A 1) (A2 := A) (I2 := upd (upd I 0 (nI 0)) 12 (nI n)) upd_eq (by omega) (fun M4 hA4 hO4 => ?_) 947 0 rfl (by rw [show mx 0 (fun i => A 9 (947 * n + i)) (A 1) = A 1 from by funext k; exact if_neg (by omega), stg_self]; exact hA2) (hO1.tr (fun q hq => n2 q (by omega)))
  rw [book_row h9] at hA4
  refine g_aload_0 dX8_undo_67 ?_
  refine g_get dX8_undo_68 (fX8_138 rfl) hA4.1 rfl ?_
  rw [show upd (upd I 0 (nI 0)) 12 (nI n) 12 = nI n from upd_eq]
  exact g_ireturn rfl rfl dX8_undo_71 (Nat.le_of_ble_eq_true rfl) (Nat.le_of_ble_eq_true rfl) ⟨rfl, ⟨_, _, hA4, (upd_ne (by decide)).trans upd_eq, hr.back⟩, hO4, rfl⟩
theorem sew_stop : ∀ k w {f : Row}, Rng f → k ≤ w → (hdg f = 0 → 11 - nd f % 12 + 1 ≤ k) → (hdg f = 1 → 11 - nd f / 12 + 1 ≤ k) → (hdg f = 2 → nd f % 12 + 1 ≤ k) → (hdg f = 3 → nd f / 12 + 1 ≤ k) → f_sew w f = f_sew k f := by
  intro k
  induction k with
  | zero =>
    intro w f hI hw h0 h1 h2 h3
    have hh := hI.hdl
    have hn := hI.ndl
    rcases (by omega : hdg f = 0 ∨ hdg f = 1 ∨ hdg f = 2 ∨ hdg f = 3) with e | e | e | e
    · have := h0 e; omega
    · have := h1 e; omega
    · have := h2 e; omega
    · have := h3 e; omega
  | succ k ih =>
    intro w f hI hw h0 h1 h2 h3
    obtain ⟨w, rfl⟩ : ∃ v, w = v + 1 := ⟨w - 1, by omega⟩
    have e1 : ∀ w, f_sew (w + 1) f = if f_noStitch f = 0 then (if (f_to (f_punch f)).isSome then ((f_sew w (f_goOn (f_punch f))).1, (f_sew w (f_goOn (f_punch f))).2 + 1) else (f_punch f, 1)) else (f, 0) := fun _ => rfl
    rw [e1 w, e1 k]
    by_cases hs : f_noStitch f = 0
    · rw [if_pos hs, if_pos hs]
      have ht := noSt_t hs
      have hP := hI.punch ht
      have en : nd (f_punch f) = nd f := gv_eq (punch_ne hI ht (by omega))
      have eh : hdg (f_punch f) = hdg f := gv_eq (punch_ne hI ht (by omega))
      cases hto : f_to (f_punch f) with
      | none => rfl
      | some y =>
        have hto' : besd (nd f) (hdg f) = some y := by rw [← en, ← eh]; exact hto
        have hy := besd_lt hI.ndl hto'
        have eg : f_goOn (f_punch f) = upd (f_punch f) 457 (nI y) := by unfold f_goOn; rw [hto]
        have ey : nd (f_goOn (f_punch f)) = y := by rw [eg]; exact gv_of upd_eq (by omega)
        have eh2 : hdg (f_goOn (f_punch f)) = hdg f := by rw [eg]; exact (gv_ne (by decide)).trans eh
        have hh := hI.hdl
        have hn := hI.ndl
        have key : f_sew w (f_goOn (f_punch f)) = f_sew k (f_goOn (f_punch f)) := by
          refine ih w hP.goOn (by omega) (fun e0 => ?_) (fun e0 => ?_) (fun e0 => ?_) (fun e0 => ?_)
          · rw [eh2] at e0
            rw [ey]
            have := h0 e0
            rw [e0] at hto'
            unfold besd at hto'
            rw [if_pos rfl] at hto'
            split at hto'
            · cases hto'
              omega
            · cases hto'
          · rw [eh2] at e0
            rw [ey]
            have := h1 e0
            rw [e0] at hto'
            unfold besd at hto'
            rw [if_neg (by decide), if_pos rfl] at hto'
            split at hto'
            · cases hto'
              omega
            · cases hto'
          · rw [eh2] at e0
            rw [ey]
            have := h2 e0
            rw [e0] at hto'
            unfold besd at hto'
            rw [if_neg (by decide), if_neg (by decide), if_pos rfl] at hto'
            split at hto'
            · cases hto'
              omega
            · cases hto'
          · rw [eh2] at e0
            rw [ey]
            have := h3 e0
            rw [e0] at hto'
            unfold besd at hto'
            rw [if_neg (by decide), if_neg (by decide), if_neg (by decide)] at hto'
            split at hto'
            · cases hto'
              omega
            · cases hto'
        simp only [Option.isSome_some, if_true, key]
    · rw [if_neg hs, if_neg hs]
theorem sew_12 (hI : Rng f) : f_sew 144 f = f_sew 12 f := sew_stop 12 144 hI (by omega) (fun _ => by omega) (fun _ => by have := hI.ndl; omega) (fun _ => by omega) (fun _ => by have := hI.ndl; omega)
theorem MRel.cp (hr : MRel I A f t n h sv len g) : MRel I (stg A 2 f0) f f0 n h sv len g := hr.r2
theorem n_couldSew (hA : MAt M b I A) (hr : MRel I A f t n h sv len g) (hIt : Rng (mx 947 f t)) : Runs mX8_couldSew [.ref b] M z (MoQ (some (.int (nI (f_sew 12 (mx 947 f t)).2))) 0 M b (f) ((f_sew 144 (mx 947 f t)).1) n h sv len g z) := by
  obtain ⟨rfl, rfl, h12, hn14, h9, ⟨h11, h10⟩, h16, hl, hT⟩ := id hr
  refine runs_of plX8 rfl (Nat.le_of_ble_eq_true rfl) ?_
  show WP mX8_couldSew 0 [some (.ref b)] [] M z 0 0 _
  refine g_aload_0 dX8_couldSew_0 ?_
  refine g_iconst (v := nI 0) dX8_couldSew_1 rfl ?_
  refine g_putI0 dX8_couldSew_2 (fX8_47 rfl) hA (fun M1 hA1 n1 => ?_)
  have hao1 := hA1.1
  have hO1 : Out M M1 b 13 := fun q hq => n1 q (by omega)
  refine g_aload_0 dX8_couldSew_5 ?_
  refine g_get dX8_couldSew_6 (fX8_7 rfl) hA1.1 rfl ?_
  refine g_aload_0 dX8_couldSew_9 ?_
  refine g_get dX8_couldSew_10 (fX8_13 rfl) hA1.1 rfl ?_
  refine g_s2 dX8_couldSew_13 (sX8_242 rfl) rfl (Nat.le_of_ble_eq_true rfl) (Nat.le_of_ble_eq_true rfl) (Nat.le_of_ble_eq_true rfl) (m_copy (r := b + 1) (r2 := b + 2) hA1.2.1 hA1.2.2.1 (by omega)) (fun r2 M2 z2 hq2 => ?_) (fun E M2 z2 hq => by obtain ⟨hq, -⟩ := hq; cases hq)
  obtain ⟨hr2, hM2, hz2⟩ := hq2
  cases hr2
  subst hz2
  subst hM2
  have hA2 := hA1.a2 (g := mx 947 (A 1) (A 2))
  have hR2 : RowAt (hpu M1 (b + 2) (aI 947 (mx 947 (A 1) (A 2)))) (b + 2) (mx 947 (A 1) (A 2)) := hpu_same _ _ _
  refine g_aload_0 dX8_couldSew_16 ?_
  refine g_get dX8_couldSew_17 (fX8_13 rfl) hA2.1 rfl ?_
  refine g_sipush (v := nI 144) dX8_couldSew_20 rfl ?_
  refine g_s2_1 dX8_couldSew_23 (sX8_111 rfl) rfl (Nat.le_of_ble_eq_true rfl) ⟨rfl, rfl⟩ (Nat.le_of_ble_eq_true rfl) (Nat.le_of_ble_eq_true rfl) (m_goSew (n := 144) hR2 hIt (by omega)) ?_
  exact g_ireturn rfl rfl dX8_couldSew_26 (Nat.le_of_ble_eq_true rfl) (Nat.le_of_ble_eq_true rfl) ⟨by rw [sew_12 hIt], ⟨_, _, hA2.a2, upd_eq, hr.i0.r2.r2⟩, (hO1.tr (Out.put (by omega) (by omega))).tr (Out.put (by omega) (by omega)), rfl⟩
theorem n_tried (hA : MAt M b I A) (hr : MRel I A f t n h sv len g) (hIt : Rng (mx 947 f t)) (hMt : MotOK (mx 947 f t)) (hg : CharsOK g) (ht : TxOK g len) : Runs mX8_tried [.ref b] M z (MoQ (some (.int (bI true))) 0 M b (f) ((prun (TT (mx 947 f t) g) (LL' (mx 947 f t) len) 4001 (mx 947 f t) [(4, 0, 0, 0)] 0 0).1) n h sv len g z) := by
  obtain ⟨rfl, rfl, h12, hn14, h9, ⟨h11, h10⟩, h16, hl, hT⟩ := id hr
  refine runs_of plX8 rfl (Nat.le_of_ble_eq_true rfl) ?_
  show WP mX8_tried 0 [some (.ref b), none] [] M z 0 0 _
  refine g_aload_0 dX8_tried_0 ?_
  refine g_aload_0 dX8_tried_1 ?_
  refine g_v0 dX8_tried_2 (vX8_183 rfl) rfl hA.1 (Nat.le_of_ble_eq_true rfl) (Nat.le_of_ble_eq_true rfl) (Nat.le_of_ble_eq_true rfl) (m_readAll hA h16 hl) (fun r9 M9 z9 hq9 => ?_) (fun E M2 z2 hq => by obtain ⟨hq, -⟩ := hq; cases hq)
  obtain ⟨hr9, ⟨I9, hA9, h19, hI9⟩, hO9, hz9⟩ := hq9
  cases hr9
  subst hz9
  rw [(rdA_ok hT hl).1]
  refine g_iconst (v := -1) dX8_tried_5 rfl ?_
  refine g_icmp_ne (tgt := 13) dX8_tried_6 (by decide)  (fun h6 => absurd ht h6) (fun _ => ?_)
  refine g_iconst (v := nI 0) dX8_tried_9 rfl ?_
  refine g_goto (tgt := 14) dX8_tried_10 (by decide) ?_
  refine g_v1 dX8_tried_14 (vX8_149 rfl) rfl hA9.1 (Nat.le_of_ble_eq_true rfl) (Nat.le_of_ble_eq_true rfl) (Nat.le_of_ble_eq_true rfl) (m_ref0 hA9) (fun r1 M1 z1 hq1 => ?_) (fun E M2 z2 hq => by obtain ⟨hq, -⟩ := hq; cases hq)
  obtain ⟨hr1, hA1, hO1, hz1⟩ := hq1
  cases hr1
  subst hz1
  refine g_if_eqB (tgt := 22) dX8_tried_17 (by decide)  (fun _ => ?_) (fun h17 => absurd h17 (by decide))
  refine g_aload_0 dX8_tried_22 ?_
  refine g_get dX8_tried_23 (fX8_7 rfl) hA1.1 rfl ?_
  refine g_aload_0 dX8_tried_26 ?_
  refine g_get dX8_tried_27 (fX8_13 rfl) hA1.1 rfl ?_
  refine g_s2 dX8_tried_30 (sX8_242 rfl) rfl (Nat.le_of_ble_eq_true rfl) (Nat.le_of_ble_eq_true rfl) (Nat.le_of_ble_eq_true rfl) (m_copy (r := b + 1) (r2 := b + 2) hA1.2.1 hA1.2.2.1 (by omega)) (fun r2 M2 z2 hq2 => ?_) (fun E M2 z2 hq => by obtain ⟨hq, -⟩ := hq; cases hq)
  obtain ⟨hr2, hM2, hz2⟩ := hq2
  cases hr2
  subst hz2
  subst hM2
  have hA2 := hA1.a2 (g := mx 947 (A 1) (A 2))
  have hR2 : RowAt (hpu M1 (b + 2) (aI 947 (mx 947 (A 1) (A 2)))) (b + 2) (mx 947 (A 1) (A 2)) := hpu_same _ _ _
  refine g_aload_0 dX8_tried_33 ?_
  refine g_aload_0 dX8_tried_34 ?_
  refine g_get dX8_tried_35 (fX8_13 rfl) hA2.1 rfl ?_
  refine g_iconst (v := nI 4) dX8_tried_38 rfl ?_
  refine g_aload_0 dX8_tried_39 ?_
  refine g_get dX8_tried_40 (fX8_146 rfl) hA2.1 rfl ?_
  rw [show upd I9 0 (nI 0) 16 = nI (LL' (mx 947 (A 1) (A 2)) len 4) from (upd_ne (by decide)).trans ((hI9 16 (by decide) (by decide) (by decide)).trans h16)]
  refine g_v3 dX8_tried_43 (vX8_239 rfl) rfl hA2.1 (Nat.le_of_ble_eq_true rfl) (Nat.le_of_ble_eq_true rfl) (Nat.le_of_ble_eq_true rfl) (m_goRun (T := TT (mx 947 (A 1) (A 2)) g) (Ln := LL' (mx 947 (A 1) (A 2)) len) (s := 4) (j := 2) hA2 (Or.inr rfl) (hMt.txts hg hl (Or.inr ht)) (hMt.txr (A := stg A 2 (mx 947 (A 1) (A 2))) stg_eq hT.1) (by omega) stg_eq hIt) (fun r3 M3 z3 hq3 => ?_) (fun E M2 z2 hq => by obtain ⟨hq, -⟩ := hq; cases hq)
  obtain ⟨hr3, ⟨I3, A3, hA3, e3, hI3, hk3⟩, hO3, hz3⟩ := hq3
  cases hr3
  subst hz3
  refine g_istore_1 rfl dX8_tried_46 ?_
  refine g_iconst (v := nI 1) dX8_tried_47 rfl ?_
  exact g_ireturn rfl rfl dX8_tried_48 (Nat.le_of_ble_eq_true rfl) (Nat.le_of_ble_eq_true rfl) ⟨rfl, ⟨I3, A3, hA3, (hI3 0 (by decide) (by decide)).trans upd_eq, ((hr.i3 hI9).i0 (v := nI 0)).r2.of (hI3 12 (by decide) (by decide)) (hI3 16 (by decide) (by decide)) (hk3 1 (by decide) (by decide)) e3 (hk3 9 (by decide) (by decide)) (hk3 10 (by decide) (by decide)) (hk3 11 (by decide) (by decide)) (hk3 12 (by decide) (by decide))⟩, ((hO9.tr hO1).tr (Out.put (by omega) (by omega))).tr hO3, rfl⟩
theorem n_tried_x (hA : MAt M b I A) (hr : MRel I A f t n h sv len g) (ht : ¬ TxOK g len) : Runs mX8_tried [.ref b] M z (MoQ (some (.int (bI false))) 1 M b (f) (t) n h sv len g z) := by
  obtain ⟨rfl, rfl, h12, hn14, h9, ⟨h11, h10⟩, h16, hl, hT⟩ := id hr
  refine runs_of plX8 rfl (Nat.le_of_ble_eq_true rfl) ?_
  show WP mX8_tried 0 [some (.ref b), none] [] M z 0 0 _
  refine g_aload_0 dX8_tried_0 ?_
  refine g_aload_0 dX8_tried_1 ?_
  refine g_v0 dX8_tried_2 (vX8_183 rfl) rfl hA.1 (Nat.le_of_ble_eq_true rfl) (Nat.le_of_ble_eq_true rfl) (Nat.le_of_ble_eq_true rfl) (m_readAll hA h16 hl) (fun r9 M9 z9 hq9 => ?_) (fun E M2 z2 hq => by obtain ⟨hq, -⟩ := hq; cases hq)
  obtain ⟨hr9, ⟨I9, hA9, h19, hI9⟩, hO9, hz9⟩ := hq9
  cases hr9
  subst hz9
  rw [(rdA_ok hT hl).1]
  refine g_iconst (v := -1) dX8_tried_5 rfl ?_
  refine g_icmp_ne (tgt := 13) dX8_tried_6 (by decide)  (fun _ => ?_) (fun h6 => absurd h6 ht)
  refine g_iconst (v := nI 1) dX8_tried_13 rfl ?_
  refine g_v1 dX8_tried_14 (vX8_149 rfl) rfl hA9.1 (Nat.le_of_ble_eq_true rfl) (Nat.le_of_ble_eq_true rfl) (Nat.le_of_ble_eq_true rfl) (m_refk hA9 (by omega) (by omega)) (fun r1 M1 z1 hq1 => ?_) (fun E M2 z2 hq => by obtain ⟨hq, -⟩ := hq; cases hq)
  obtain ⟨hr1, hA1, hO1, hz1⟩ := hq1
  cases hr1
  subst hz1
  refine g_if_eqB (tgt := 22) dX8_tried_17 (by decide)  (fun h17 => absurd h17 (by decide)) (fun _ => ?_)
  refine g_iconst (v := nI 0) dX8_tried_20 rfl ?_
  exact g_ireturn rfl rfl dX8_tried_21 (Nat.le_of_ble_eq_true rfl) (Nat.le_of_ble_eq_true rfl) ⟨rfl, ⟨_, _, hA1, upd_eq, (hr.i3 hI9).i0⟩, hO9.tr hO1, rfl⟩
theorem n_loopsBy (hA : MAt M b I A) (hr : MRel I A f t n h sv len g) (hIt : Rng (mx 947 f t)) (hMt : MotOK (mx 947 f t)) (hg : CharsOK g) (ht : TxOK g len) : Runs mX8_loopsBy [.ref b] M z (MoQ (some (.int (nI (cnt (fun i => hasL ((prun (TT (mx 947 f t) g) (LL' (mx 947 f t) len) 4001 (mx 947 f t) [(4, 0, 0, 0)] 0 0).1 (144 + i))) 144) - nI (cnt (fun i => hasL (f (144 + i))) 144)))) 0 M b (f) ((prun (TT (mx 947 f t) g) (LL' (mx 947 f t) len) 4001 (mx 947 f t) [(4, 0, 0, 0)] 0 0).1) n h sv len g z) := by
  obtain ⟨rfl, rfl, h12, hn14, h9, ⟨h11, h10⟩, h16, hl, hT⟩ := id hr
  refine runs_of plX8 rfl (Nat.le_of_ble_eq_true rfl) ?_
  show WP mX8_loopsBy 0 [some (.ref b)] [] M z 0 0 _
  refine g_aload_0 dX8_loopsBy_0 ?_
  refine g_v0 dX8_loopsBy_1 (vX8_249 rfl) rfl hA.1 (Nat.le_of_ble_eq_true rfl) (Nat.le_of_ble_eq_true rfl) (Nat.le_of_ble_eq_true rfl) (n_tried hA hr hIt hMt hg ht) (fun r1 M1 z1 hq1 => ?_) (fun E M2 z2 hq => by obtain ⟨hq, -⟩ := hq; cases hq)
  obtain ⟨hr1, ⟨I1, A1, hA1, hk1, hm1⟩, hO1, hz1⟩ := hq1
  cases hr1
  subst hz1
  have hRw1 : RowAt M1 (b + 1) (A 1) := hm1.1 ▸ hA1.2.1
  have hRw2 := (show RowAt M1 (b + 2) (A1 2) from hA1.2.2.1)
  rw [hm1.2.1] at hRw2
  refine g_if_eqB (tgt := 25) dX8_loopsBy_4 (by decide)  (fun h4 => absurd h4 (by decide)) (fun _ => ?_)
  refine g_aload_0 dX8_loopsBy_7 ?_
  refine g_get dX8_loopsBy_8 (fX8_13 rfl) hA1.1 rfl ?_
  refine g_s1_1 dX8_loopsBy_11 (sX8_207 rfl) rfl (Nat.le_of_ble_eq_true rfl) ⟨rfl, rfl⟩ (Nat.le_of_ble_eq_true rfl) (Nat.le_of_ble_eq_true rfl) (m_loops hRw2) ?_
  refine g_aload_0 dX8_loopsBy_14 ?_
  refine g_get dX8_loopsBy_15 (fX8_7 rfl) hA1.1 rfl ?_
  refine g_s1_1 dX8_loopsBy_18 (sX8_207 rfl) rfl (Nat.le_of_ble_eq_true rfl) ⟨rfl, rfl⟩ (Nat.le_of_ble_eq_true rfl) (Nat.le_of_ble_eq_true rfl) (m_loops hRw1) ?_
  refine g_isub dX8_loopsBy_21 ?_
  refine g_goto (tgt := 26) dX8_loopsBy_22 (by decide) ?_
  exact g_ireturn rfl rfl dX8_loopsBy_26 (Nat.le_of_ble_eq_true rfl) (Nat.le_of_ble_eq_true rfl) ⟨rfl, ⟨I1, A1, hA1, hk1, hm1⟩, hO1, rfl⟩
theorem n_loopsBy_x1 (hA : MAt M b I A) (hr : MRel I A f t n h sv len g) (ht : ¬ TxOK g len) : Runs mX8_loopsBy [.ref b] M z (MoQ (some (.int (nI 0))) 1 M b (f) (t) n h sv len g z) := by
  obtain ⟨rfl, rfl, h12, hn14, h9, ⟨h11, h10⟩, h16, hl, hT⟩ := id hr
  refine runs_of plX8 rfl (Nat.le_of_ble_eq_true rfl) ?_
  show WP mX8_loopsBy 0 [some (.ref b)] [] M z 0 0 _
  refine g_aload_0 dX8_loopsBy_0 ?_
  refine g_v0 dX8_loopsBy_1 (vX8_249 rfl) rfl hA.1 (Nat.le_of_ble_eq_true rfl) (Nat.le_of_ble_eq_true rfl) (Nat.le_of_ble_eq_true rfl) (n_tried_x hA hr ht) (fun r1 M1 z1 hq1 => ?_) (fun E M2 z2 hq => by obtain ⟨hq, -⟩ := hq; cases hq)
  obtain ⟨hr1, ⟨I1, A1, hA1, hk1, hm1⟩, hO1, hz1⟩ := hq1
  cases hr1
  subst hz1
  have hRw1 : RowAt M1 (b + 1) (A 1) := hm1.1 ▸ hA1.2.1
  have hRw2 := (show RowAt M1 (b + 2) (A1 2) from hA1.2.2.1)
  rw [hm1.2.1] at hRw2
  refine g_if_eqB (tgt := 25) dX8_loopsBy_4 (by decide)  (fun _ => ?_) (fun h4 => absurd h4 (by decide))
  refine g_iconst (v := nI 0) dX8_loopsBy_25 rfl ?_
  exact g_ireturn rfl rfl dX8_loopsBy_26 (Nat.le_of_ble_eq_true rfl) (Nat.le_of_ble_eq_true rfl) ⟨rfl, ⟨I1, A1, hA1, hk1, hm1⟩, hO1, rfl⟩
theorem n_needleBy (hA : MAt M b I A) (hr : MRel I A f t n h sv len g) (hIt : Rng (mx 947 f t)) (hMt : MotOK (mx 947 f t)) (hg : CharsOK g) (ht : TxOK g len) : Runs mX8_needleBy [.ref b] M z (MoQ (some (.int ((prun (TT (mx 947 f t) g) (LL' (mx 947 f t) len) 4001 (mx 947 f t) [(4, 0, 0, 0)] 0 0).1 457))) 0 M b (f) ((prun (TT (mx 947 f t) g) (LL' (mx 947 f t) len) 4001 (mx 947 f t) [(4, 0, 0, 0)] 0 0).1) n h sv len g z) := by
  obtain ⟨rfl, rfl, h12, hn14, h9, ⟨h11, h10⟩, h16, hl, hT⟩ := id hr
  refine runs_of plX8 rfl (Nat.le_of_ble_eq_true rfl) ?_
  show WP mX8_needleBy 0 [some (.ref b)] [] M z 0 0 _
  refine g_aload_0 dX8_needleBy_0 ?_
  refine g_v0 dX8_needleBy_1 (vX8_249 rfl) rfl hA.1 (Nat.le_of_ble_eq_true rfl) (Nat.le_of_ble_eq_true rfl) (Nat.le_of_ble_eq_true rfl) (n_tried hA hr hIt hMt hg ht) (fun r1 M1 z1 hq1 => ?_) (fun E M2 z2 hq => by obtain ⟨hq, -⟩ := hq; cases hq)
  obtain ⟨hr1, ⟨I1, A1, hA1, hk1, hm1⟩, hO1, hz1⟩ := hq1
  cases hr1
  subst hz1
  have hRw1 : RowAt M1 (b + 1) (A 1) := hm1.1 ▸ hA1.2.1
  have hRw2 := (show RowAt M1 (b + 2) (A1 2) from hA1.2.2.1)
  rw [hm1.2.1] at hRw2
  refine g_if_eqB (tgt := 18) dX8_needleBy_4 (by decide)  (fun h4 => absurd h4 (by decide)) (fun _ => ?_)
  refine g_aload_0 dX8_needleBy_7 ?_
  refine g_get dX8_needleBy_8 (fX8_13 rfl) hA1.1 rfl ?_
  refine g_sipush (v := nI 457) dX8_needleBy_11 rfl ?_
  refine g_ialdN dX8_needleBy_14 hRw2 (by omega) (by decide) ?_
  refine g_goto (tgt := 19) dX8_needleBy_15 (by decide) ?_
  exact g_ireturn rfl rfl dX8_needleBy_19 (Nat.le_of_ble_eq_true rfl) (Nat.le_of_ble_eq_true rfl) ⟨rfl, ⟨I1, A1, hA1, hk1, hm1⟩, hO1, rfl⟩
theorem n_needleBy_x1 (hA : MAt M b I A) (hr : MRel I A f t n h sv len g) (ht : ¬ TxOK g len) : Runs mX8_needleBy [.ref b] M z (MoQ (some (.int (nI 0))) 1 M b (f) (t) n h sv len g z) := by
  obtain ⟨rfl, rfl, h12, hn14, h9, ⟨h11, h10⟩, h16, hl, hT⟩ := id hr
  refine runs_of plX8 rfl (Nat.le_of_ble_eq_true rfl) ?_
  show WP mX8_needleBy 0 [some (.ref b)] [] M z 0 0 _
  refine g_aload_0 dX8_needleBy_0 ?_
  refine g_v0 dX8_needleBy_1 (vX8_249 rfl) rfl hA.1 (Nat.le_of_ble_eq_true rfl) (Nat.le_of_ble_eq_true rfl) (Nat.le_of_ble_eq_true rfl) (n_tried_x hA hr ht) (fun r1 M1 z1 hq1 => ?_) (fun E M2 z2 hq => by obtain ⟨hq, -⟩ := hq; cases hq)
  obtain ⟨hr1, ⟨I1, A1, hA1, hk1, hm1⟩, hO1, hz1⟩ := hq1
  cases hr1
  subst hz1
  have hRw1 : RowAt M1 (b + 1) (A 1) := hm1.1 ▸ hA1.2.1
  have hRw2 := (show RowAt M1 (b + 2) (A1 2) from hA1.2.2.1)
  rw [hm1.2.1] at hRw2
  refine g_if_eqB (tgt := 18) dX8_needleBy_4 (by decide)  (fun _ => ?_) (fun h4 => absurd h4 (by decide))
  refine g_iconst (v := nI 0) dX8_needleBy_18 rfl ?_
  exact g_ireturn rfl rfl dX8_needleBy_19 (Nat.le_of_ble_eq_true rfl) (Nat.le_of_ble_eq_true rfl) ⟨rfl, ⟨I1, A1, hA1, hk1, hm1⟩, hO1, rfl⟩
theorem n_yarnBy_x2 (hA : MAt M b I A) (hr : MRel I A f t n h sv len g) (hc : c < 5) (ht : ¬ TxOK g len) : Runs mX8_yarnBy [.ref b, .int (nI c)] M z (MoQ (some (.int (nI 0))) 2 M b (f) (t) n h sv len g z) := by
  obtain ⟨rfl, rfl, h12, hn14, h9, ⟨h11, h10⟩, h16, hl, hT⟩ := id hr
  refine runs_of plX8 rfl (Nat.le_of_ble_eq_true rfl) ?_
  show WP mX8_yarnBy 0 [some (.ref b), some (.int (nI c))] [] M z 0 0 _
  refine g_aload_0 dX8_yarnBy_0 ?_
  refine g_iload_1 dX8_yarnBy_1 ?_
  refine g_v1 dX8_yarnBy_2 (vX8_201 rfl) rfl hA.1 (Nat.le_of_ble_eq_true rfl) (Nat.le_of_ble_eq_true rfl) (Nat.le_of_ble_eq_true rfl) (m_noK_ok hA hc) (fun r8 M8 z8 hq8 => ?_) (fun E M2 z2 hq => by obtain ⟨hq, -⟩ := hq; cases hq)
  obtain ⟨hr8, hA8, hO8, hz8⟩ := hq8
  cases hr8
  subst hz8
  refine g_if_eqB (tgt := 10) dX8_yarnBy_5 (by decide)  (fun _ => ?_) (fun h5 => absurd h5 (by decide))
  refine g_aload_0 dX8_yarnBy_10 ?_
  refine g_aload_0 dX8_yarnBy_11 ?_
  refine g_v0 dX8_yarnBy_12 (vX8_183 rfl) rfl hA8.1 (Nat.le_of_ble_eq_true rfl) (Nat.le_of_ble_eq_true rfl) (Nat.le_of_ble_eq_true rfl) (m_readAll hA8 ((upd_ne (by decide)).trans h16) hl) (fun r9 M9 z9 hq9 => ?_) (fun E M2 z2 hq => by obtain ⟨hq, -⟩ := hq; cases hq)
  obtain ⟨hr9, ⟨I9, hA9, h19, hI9⟩, hO9, hz9⟩ := hq9
  cases hr9
  subst hz9
  rw [(rdA_ok hT hl).1]
  refine g_iconst (v := -1) dX8_yarnBy_15 rfl ?_
  refine g_icmp_ne (tgt := 23) dX8_yarnBy_16 (by decide)  (fun _ => ?_) (fun h16 => absurd h16 ht)
  refine g_iconst (v := nI 2) dX8_yarnBy_23 rfl ?_
  refine g_v1 dX8_yarnBy_24 (vX8_149 rfl) rfl hA9.1 (Nat.le_of_ble_eq_true rfl) (Nat.le_of_ble_eq_true rfl) (Nat.le_of_ble_eq_true rfl) (m_refk hA9 (by omega) (by omega)) (fun r1 M1 z1 hq1 => ?_) (fun E M2 z2 hq => by obtain ⟨hq, -⟩ := hq; cases hq)
  obtain ⟨hr1, hA1, hO1, hz1⟩ := hq1
  cases hr1
  subst hz1
  refine g_if_eqB (tgt := 34) dX8_yarnBy_27 (by decide)  (fun h27 => absurd h27 (by decide)) (fun _ => ?_)
  refine g_iconst (v := nI 0) dX8_yarnBy_30 rfl ?_
  refine g_goto (tgt := 62) dX8_yarnBy_31 (by decide) ?_
  exact g_ireturn rfl rfl dX8_yarnBy_62 (Nat.le_of_ble_eq_true rfl) (Nat.le_of_ble_eq_true rfl) ⟨rfl, ⟨_, _, hA1, upd_eq, ((hr.i0 (v := nI 0)).i3 hI9).i0⟩, (hO8.tr hO9).tr hO1, rfl⟩
theorem n_yarnBy (hA : MAt M b I A) (hr : MRel I A f t n h sv len g) (hc : c < 5) (hIt : Rng (mx 947 f t)) (hMt : MotOK (mx 947 f t)) (hg : CharsOK g) (ht : TxOK g len) : Runs mX8_yarnBy [.ref b, .int (nI c)] M z (MoQ (some (.int (f_drawn (prun (TT (mx 947 f t) g) (LL' (mx 947 f t) len) 4001 (mx 947 f t) [(4, 0, 0, 0)] 0 0).1 c - f_drawn f c))) 0 M b (f) ((prun (TT (mx 947 f t) g) (LL' (mx 947 f t) len) 4001 (mx 947 f t) [(4, 0, 0, 0)] 0 0).1) n h sv len g z) := by
  obtain ⟨rfl, rfl, h12, hn14, h9, ⟨h11, h10⟩, h16, hl, hT⟩ := id hr
  refine runs_of plX8 rfl (Nat.le_of_ble_eq_true rfl) ?_
  show WP mX8_yarnBy 0 [some (.ref b), some (.int (nI c))] [] M z 0 0 _
  refine g_aload_0 dX8_yarnBy_0 ?_
  refine g_iload_1 dX8_yarnBy_1 ?_
  refine g_v1 dX8_yarnBy_2 (vX8_201 rfl) rfl hA.1 (Nat.le_of_ble_eq_true rfl) (Nat.le_of_ble_eq_true rfl) (Nat.le_of_ble_eq_true rfl) (m_noK_ok hA hc) (fun r8 M8 z8 hq8 => ?_) (fun E M2 z2 hq => by obtain ⟨hq, -⟩ := hq; cases hq)
  obtain ⟨hr8, hA8, hO8, hz8⟩ := hq8
  cases hr8
  subst hz8
  refine g_if_eqB (tgt := 10) dX8_yarnBy_5 (by decide)  (fun _ => ?_) (fun h5 => absurd h5 (by decide))
  refine g_aload_0 dX8_yarnBy_10 ?_
  refine g_aload_0 dX8_yarnBy_11 ?_
  refine g_v0 dX8_yarnBy_12 (vX8_183 rfl) rfl hA8.1 (Nat.le_of_ble_eq_true rfl) (Nat.le_of_ble_eq_true rfl) (Nat.le_of_ble_eq_true rfl) (m_readAll hA8 ((upd_ne (by decide)).trans h16) hl) (fun r9 M9 z9 hq9 => ?_) (fun E M2 z2 hq => by obtain ⟨hq, -⟩ := hq; cases hq)
  obtain ⟨hr9, ⟨I9, hA9, h19, hI9⟩, hO9, hz9⟩ := hq9
  cases hr9
  subst hz9
  rw [(rdA_ok hT hl).1]
  refine g_iconst (v := -1) dX8_yarnBy_15 rfl ?_
  refine g_icmp_ne (tgt := 23) dX8_yarnBy_16 (by decide)  (fun h16 => absurd ht h16) (fun _ => ?_)
  refine g_iconst (v := nI 0) dX8_yarnBy_19 rfl ?_
  refine g_goto (tgt := 24) dX8_yarnBy_20 (by decide) ?_
  refine g_v1 dX8_yarnBy_24 (vX8_149 rfl) rfl hA9.1 (Nat.le_of_ble_eq_true rfl) (Nat.le_of_ble_eq_true rfl) (Nat.le_of_ble_eq_true rfl) (m_ref0 hA9) (fun r7 M7 z7 hq7 => ?_) (fun E M2 z2 hq => by obtain ⟨hq, -⟩ := hq; cases hq)
  obtain ⟨hr7, hA7, hO7, hz7⟩ := hq7
  cases hr7
  subst hz7
  have hr7 := ((hr.i0 (v := nI 0)).i3 hI9).i0 (v := nI 0)
  refine g_if_eqB (tgt := 34) dX8_yarnBy_27 (by decide)  (fun _ => ?_) (fun h27 => absurd h27 (by decide))
  refine g_aload_0 dX8_yarnBy_34 ?_
  refine g_v0 dX8_yarnBy_35 (vX8_249 rfl) rfl hA7.1 (Nat.le_of_ble_eq_true rfl) (Nat.le_of_ble_eq_true rfl) (Nat.le_of_ble_eq_true rfl) (n_tried hA7 hr7 hIt hMt hg ht) (fun r1 M1 z1 hq1 => ?_) (fun E M2 z2 hq => by obtain ⟨hq, -⟩ := hq; cases hq)
  obtain ⟨hr1, ⟨I1, A1, hA1, hk1, hm1⟩, hO1, hz1⟩ := hq1
  cases hr1
  subst hz1
  have hRw1 : RowAt M1 (b + 1) (A 1) := hm1.1 ▸ hA1.2.1
  have hRw2 := (show RowAt M1 (b + 2) (A1 2) from hA1.2.2.1)
  rw [hm1.2.1] at hRw2
  refine g_if_eqB (tgt := 61) dX8_yarnBy_38 (by decide)  (fun h38 => absurd h38 (by decide)) (fun _ => ?_)
  refine g_aload_0 dX8_yarnBy_41 ?_
  refine g_get dX8_yarnBy_42 (fX8_13 rfl) hA1.1 rfl ?_
  refine g_iload_1 dX8_yarnBy_45 ?_
  refine g_s2_1 dX8_yarnBy_46 (sX8_71 rfl) rfl (Nat.le_of_ble_eq_true rfl) ⟨rfl, rfl⟩ (Nat.le_of_ble_eq_true rfl) (Nat.le_of_ble_eq_true rfl) (m_drawn hRw2 hc) ?_
  refine g_aload_0 dX8_yarnBy_49 ?_
  refine g_get dX8_yarnBy_50 (fX8_7 rfl) hA1.1 rfl ?_
  refine g_iload_1 dX8_yarnBy_53 ?_
  refine g_s2_1 dX8_yarnBy_54 (sX8_71 rfl) rfl (Nat.le_of_ble_eq_true rfl) ⟨rfl, rfl⟩ (Nat.le_of_ble_eq_true rfl) (Nat.le_of_ble_eq_true rfl) (m_drawn hRw1 hc) ?_
  refine g_isub dX8_yarnBy_57 ?_
  refine g_goto (tgt := 62) dX8_yarnBy_58 (by decide) ?_
  exact g_ireturn rfl rfl dX8_yarnBy_62 (Nat.le_of_ble_eq_true rfl) (Nat.le_of_ble_eq_true rfl) ⟨rfl, ⟨I1, A1, hA1, hk1, hm1⟩, ((hO8.tr hO9).tr hO7).tr hO1, rfl⟩
theorem n_simulate_x1 (hA : MAt M b I A) (hr : MRel I A f t n h sv len g) (hx : x < nI 1 ∨ nI 60 < x) : Runs mX8_simulate [.ref b, .long xl, .int x] M z (MoQ (some (.int (nI 0))) 1 M b (f) (t) n h sv len g z) := by
  obtain ⟨rfl, rfl, h12, hn14, h9, ⟨h11, h10⟩, h16, hl, hT⟩ := id hr
  refine runs_of plX8 rfl (Nat.le_of_ble_eq_true rfl) ?_
  show WP mX8_simulate 0 [some (.ref b), some (.long xl), none, some (.int x), none, none, none, none] [] M z 0 0 _
  refine g_aload_0 dX8_simulate_0 ?_
  refine g_iload_3 dX8_simulate_1 ?_
  refine g_i2l dX8_simulate_2 ?_
  refine g_lconst (vl := 1) dX8_simulate_3 rfl ?_
  refine g_ldc2 dX8_simulate_4 (zX8_253 rfl) ?_
  refine g_s3_1 dX8_simulate_7 (sX8_53 rfl) rfl (Nat.le_of_ble_eq_true rfl) ⟨rfl, rfl⟩ (Nat.le_of_ble_eq_true rfl) (Nat.le_of_ble_eq_true rfl) (m_in_x (lo := 1) (hi := 60) hx (by omega) (by omega) rfl rfl) ?_
  refine g_if_eqB (tgt := 17) dX8_simulate_10 (by decide)  (fun _ => ?_) (fun h10 => absurd h10 (by decide))
  refine g_iconst (v := nI 1) dX8_simulate_17 rfl ?_
  refine g_v1 dX8_simulate_18 (vX8_149 rfl) rfl hA.1 (Nat.le_of_ble_eq_true rfl) (Nat.le_of_ble_eq_true rfl) (Nat.le_of_ble_eq_true rfl) (m_refk hA (by omega) (by omega)) (fun r1 M1 z1 hq1 => ?_) (fun E M2 z2 hq => by obtain ⟨hq, -⟩ := hq; cases hq)
  obtain ⟨hr1, hA1, hO1, hz1⟩ := hq1
  cases hr1
  subst hz1
  refine g_if_eqB (tgt := 26) dX8_simulate_21 (by decide)  (fun h21 => absurd h21 (by decide)) (fun _ => ?_)
  refine g_iconst (v := nI 0) dX8_simulate_24 rfl ?_
  exact g_ireturn rfl rfl dX8_simulate_25 (Nat.le_of_ble_eq_true rfl) (Nat.le_of_ble_eq_true rfl) ⟨rfl, ⟨_, _, hA1, upd_eq, hr.i0⟩, hO1, rfl⟩
theorem n_sim_l {w9 x0 : Int64} {ft : Row} (hm : m ≤ 60) (hT : TxtsOK T Ln) (hk : ∀ M I A l7 xl, MAt M b I A → A 2 = f_simN T Ln m x0 ft → (∀ k, k ≠ 9 → k ≠ 10 → I k = I0 k) → (∀ k, k ≠ 2 → (k < 4 ∨ 8 < k) → A k = A0 k) → Out M0 M b 13 → WP mX8_simulate 79 [some (.ref b), some (.long w9), none, some (.int (nI m)), some (.long xl), none, some (.int (nI m)), l7] [] M z 0 0 Φ) : ∀ d i {M : Hp} {I : Row} {A : Nat → Row} {l7 : Option Value} {xl : Int64}, i + d = m → MAt M b I A → Rng (A 2) → TxR A 2 T Ln → f_simN T Ln d xl (A 2) = f_simN T Ln m x0 ft → (∀ k, k ≠ 9 → k ≠ 10 → I k = I0 k) → (∀ k, k ≠ 2 → (k < 4 ∨ 8 < k) → A k = A0 k) → Out M0 M b 13 → WP mX8_simulate 43 [some (.ref b), some (.long w9), none, some (.int (nI m)), some (.long xl), none, some (.int (nI i)), l7] [] M z 0 0 Φ := by
  intro d
  induction d with
  | zero =>
    intro i M I A l7 xl hi hA hI hX hs hIk hAk hO
    obtain rfl : i = m := by omega
    refine g_iload_6 dX8_simulate_43 ?_
    refine g_iload_3 dX8_simulate_45 ?_
    refine g_icmp_geN (tgt := 79) dX8_simulate_46 (by decide) (by omega) (by omega) (fun _ => ?_) (fun h46 => absurd h46 (by omega))
    exact hk M I A l7 xl hA hs hIk hAk hO
  | succ d ih =>
    intro i M I A l7 xl hi hA hI hX hs hIk hAk hO
    rw [f_simN_s] at hs
    refine g_iload_6 dX8_simulate_43 ?_
    refine g_iload_3 dX8_simulate_45 ?_
    refine g_icmp_geN (tgt := 79) dX8_simulate_46 (by decide) (by omega) (by omega) (fun h46 => absurd h46 (by omega)) (fun _ => ?_)
    refine g_lload_4 dX8_simulate_49 ?_
    refine g_ldc2 dX8_simulate_51 (zX8_255 rfl) ?_
    refine g_lmul dX8_simulate_54 ?_
    refine g_ldc2 dX8_simulate_55 (zX8_257 rfl) ?_
    refine g_ladd dX8_simulate_58 ?_
    rw [show xl * 6364136223846793005 + 1442695040888963407 = lcg xl from rfl]
    refine g_lstore_4 rfl dX8_simulate_59 ?_
    refine g_aload_0 dX8_simulate_61 ?_
    refine g_lload_4 dX8_simulate_62 ?_
    refine g_bipush (v := nI 33) dX8_simulate_64 rfl ?_
    refine g_lushr dX8_simulate_66 ?_
    refine g_l2i dX8_simulate_67 ?_
    rw [lcr_eq]
    refine g_v1 dX8_simulate_68 (vX8_259 rfl) rfl hA.1 (Nat.le_of_ble_eq_true rfl) (Nat.le_of_ble_eq_true rfl) (Nat.le_of_ble_eq_true rfl) (m_stir hA hI (lcr_lt _) hT hX) (fun r2 M2 z2 hq2 => ?_) (fun E M2 z2 hq => by obtain ⟨⟨v9, hq9⟩, -⟩ := hq; cases hq9)
    obtain ⟨⟨v9, hr2⟩, ⟨I2, A2, hA2, e2, hI2, hk2⟩, hO2, hz2⟩ := hq2
    cases hr2
    subst hz2
    refine g_istore_7 rfl dX8_simulate_71 ?_
    refine g_iincN_6 (q := 1) rfl dX8_simulate_73 rfl ?_
    refine g_goto (tgt := 43) dX8_simulate_76 (by decide) ?_
    exact ih (i + 1) (by omega) hA2 (by rw [e2]; exact (sim_ok hT hI).1) (by refine hX.keep (hk2 12 (by decide) (by decide)) (fun k hk => ?_); rw [e2]; exact (sim_ok hT hI).2.1 k hk) (by rw [e2]; exact hs) (fun k a b => (hI2 k a b).trans (hIk k a b)) (fun k a b => (hk2 k a b).trans (hAk k a b)) (hO.tr hO2)
theorem n_simulate (hA : MAt M b I A) (hr : MRel I A f t n h sv len g) (hIt : Rng (mx 947 f t)) (hMt : MotOK (mx 947 f t)) (hg : CharsOK g) (h1 : 1 ≤ m) (h2 : m ≤ 60) : Runs mX8_simulate [.ref b, .long xl, .int (nI m)] M z (MoQ (some (.int (simV (f_simN (TT (mx 947 f t) g) (LL' (mx 947 f t) 0) m xl (mx 947 f t))))) 0 M b (f) ((f_simN (TT (mx 947 f t) g) (LL' (mx 947 f t) 0) m xl (mx 947 f t))) n h sv len g z) := by
  obtain ⟨rfl, rfl, h12, hn14, h9, ⟨h11, h10⟩, h16, hl, hT⟩ := id hr
  refine runs_of plX8 rfl (Nat.le_of_ble_eq_true rfl) ?_
  show WP mX8_simulate 0 [some (.ref b), some (.long xl), none, some (.int (nI m)), none, none, none, none] [] M z 0 0 _
  refine g_aload_0 dX8_simulate_0 ?_
  refine g_iload_3 dX8_simulate_1 ?_
  refine g_i2l dX8_simulate_2 ?_
  refine g_lconst (vl := 1) dX8_simulate_3 rfl ?_
  refine g_ldc2 dX8_simulate_4 (zX8_253 rfl) ?_
  refine g_s3_1 dX8_simulate_7 (sX8_53 rfl) rfl (Nat.le_of_ble_eq_true rfl) ⟨rfl, rfl⟩ (Nat.le_of_ble_eq_true rfl) (Nat.le_of_ble_eq_true rfl) (m_in_ok (lo := 1) (hi := 60) (by omega) (by omega) (by omega) rfl rfl) ?_
  refine g_if_eqB (tgt := 17) dX8_simulate_10 (by decide)  (fun h10 => absurd h10 (by decide)) (fun _ => ?_)
  refine g_iconst (v := nI 0) dX8_simulate_13 rfl ?_
  refine g_goto (tgt := 18) dX8_simulate_14 (by decide) ?_
  refine g_v1 dX8_simulate_18 (vX8_149 rfl) rfl hA.1 (Nat.le_of_ble_eq_true rfl) (Nat.le_of_ble_eq_true rfl) (Nat.le_of_ble_eq_true rfl) (m_ref0 hA) (fun r1 M1 z1 hq1 => ?_) (fun E M2 z2 hq => by obtain ⟨hq, -⟩ := hq; cases hq)
  obtain ⟨hr1, hA1, hO1, hz1⟩ := hq1
  cases hr1
  subst hz1
  refine g_if_eqB (tgt := 26) dX8_simulate_21 (by decide)  (fun _ => ?_) (fun h21 => absurd h21 (by decide))
  refine g_aload_0 dX8_simulate_26 ?_
  refine g_get dX8_simulate_27 (fX8_7 rfl) hA1.1 rfl ?_
  refine g_aload_0 dX8_simulate_30 ?_
  refine g_get dX8_simulate_31 (fX8_13 rfl) hA1.1 rfl ?_
  refine g_s2 dX8_simulate_34 (sX8_242 rfl) rfl (Nat.le_of_ble_eq_true rfl) (Nat.le_of_ble_eq_true rfl) (Nat.le_of_ble_eq_true rfl) (m_copy (r := b + 1) (r2 := b + 2) hA1.2.1 hA1.2.2.1 (by omega)) (fun r2 M2 z2 hq2 => ?_) (fun E M2 z2 hq => by obtain ⟨hq, -⟩ := hq; cases hq)
  obtain ⟨hr2, hM2, hz2⟩ := hq2
  cases hr2
  subst hz2
  subst hM2
  have hA2 := hA1.a2 (g := mx 947 (A 1) (A 2))
  have hR2 : RowAt (hpu M1 (b + 2) (aI 947 (mx 947 (A 1) (A 2)))) (b + 2) (mx 947 (A 1) (A 2)) := hpu_same _ _ _
  refine g_lload_1 dX8_simulate_37 ?_
  refine g_lstore_4 rfl dX8_simulate_38 ?_
  refine g_iconst (v := nI 0) dX8_simulate_40 rfl ?_
  refine g_istore_6 rfl dX8_simulate_41 ?_
  have hTx := hMt.txts (l := 0) hg (by omega) (Or.inl rfl)
  refine n_sim_l (x0 := xl) (ft := mx 947 (A 1) (A 2)) (I0 := upd I 0 (nI 0)) (A0 := stg A 2 (mx 947 (A 1) (A 2))) (M0 := M) h2 hTx (fun M4 I4 A4 l7 x4 hA4 e4 hI4 hk4 hO4 => ?_) m 0 (by omega) hA2 (by rw [stg_eq]; exact hIt) (hMt.txr stg_eq (fun i hi => absurd hi (by omega))) (by rw [stg_eq]) (fun _ _ _ => rfl) (fun _ _ _ => rfl) (hO1.tr (Out.put (by omega) (by omega)))
  have hR4 : RowAt M4 (b + 2) (f_simN (TT (mx 947 (A 1) (A 2)) g) (LL' (mx 947 (A 1) (A 2)) 0) m xl (mx 947 (A 1) (A 2))) := e4 ▸ hA4.2.2.1
  have hcs := cnt_le (fun i => decide ((f_simN (TT (mx 947 (A 1) (A 2)) g) (LL' (mx 947 (A 1) (A 2)) 0) m xl (mx 947 (A 1) (A 2))) (144 + i) = nI 6)) 144
  refine g_sipush (v := nI 1000) dX8_simulate_79 rfl ?_
  refine g_aload_0 dX8_simulate_82 ?_
  refine g_get dX8_simulate_83 (fX8_13 rfl) hA4.1 rfl ?_
  refine g_s1_1 dX8_simulate_86 (sX8_207 rfl) rfl (Nat.le_of_ble_eq_true rfl) ⟨rfl, rfl⟩ (Nat.le_of_ble_eq_true rfl) (Nat.le_of_ble_eq_true rfl) (m_loops hR4) ?_
  refine g_imulN dX8_simulate_89 ?_
  refine g_bipush (v := nI 10) dX8_simulate_90 rfl ?_
  refine g_aload_0 dX8_simulate_92 ?_
  refine g_get dX8_simulate_93 (fX8_13 rfl) hA4.1 rfl ?_
  refine g_s1_1 dX8_simulate_96 (sX8_198 rfl) rfl (Nat.le_of_ble_eq_true rfl) ⟨rfl, rfl⟩ (Nat.le_of_ble_eq_true rfl) (Nat.le_of_ble_eq_true rfl) (m_skippedIn hR4) ?_
  refine g_bipush (v := nI 100) dX8_simulate_99 rfl ?_
  refine g_iremN dX8_simulate_101 (by omega) (by omega) (by omega) ?_
  refine g_imulN dX8_simulate_102 ?_
  refine g_iaddN dX8_simulate_103 ?_
  refine g_aload_0 dX8_simulate_104 ?_
  refine g_get dX8_simulate_105 (fX8_13 rfl) hA4.1 rfl ?_
  refine g_sipush (v := nI 458) dX8_simulate_108 rfl ?_
  refine g_ialdN dX8_simulate_111 hR4 (by omega) (by decide) ?_
  refine g_iadd dX8_simulate_112 ?_
  exact g_ireturn rfl rfl dX8_simulate_113 (Nat.le_of_ble_eq_true rfl) (Nat.le_of_ble_eq_true rfl) ⟨rfl, ⟨I4, A4, hA4, (hI4 0 (by decide) (by decide)).trans upd_eq, (hr.i0 (v := nI 0)).r2.of (hI4 12 (by decide) (by decide)) (hI4 16 (by decide) (by decide)) (hk4 1 (by decide) (by decide)) e4 (hk4 9 (by decide) (by decide)) (hk4 10 (by decide) (by decide)) (hk4 11 (by decide) (by decide)) (hk4 12 (by decide) (by decide))⟩, hO4, rfl⟩
theorem MRel.sav (hr : MRel I A f t n h sv len g) (hs : s < 2) : MRel I (stg (stg A 10 (cpB (A 10) f (947 * s) 947)) 11 (upd (A 11) s (nI 1))) f t n h (svU sv s f) len g := by
  obtain ⟨h1, h2, h3, h4, h5, ⟨h6, h7⟩, h8, h9, h10, h11⟩ := hr
  have e : ∀ k, k ≠ 10 → k ≠ 11 → stg (stg A 10 (cpB (A 10) f (947 * s) 947)) 11 (upd (A 11) s (nI 1)) k = A k := fun k a b => (stg_ne b).trans (stg_ne a)
  refine ⟨(e 1 (by decide) (by decide)).trans h1, (e 2 (by decide) (by decide)).trans h2, h3, h4, by rw [e 9 (by decide) (by decide)]; exact h5, ⟨fun k hk => ?_, fun k r hk hr i hi => ?_⟩, h8, h9, by show ∀ i, i < len → _ = _; rw [e 12 (by decide) (by decide)]; exact h10, h11⟩
  · rw [stg_eq]
    unfold svU
    by_cases q : k = s
    · subst q
      rw [upd_eq, if_pos rfl]
      rfl
    · rw [upd_ne q, if_neg q]
      exact h6 k hk
  · rw [stg_ne (by decide), stg_eq]
    unfold svU at hr
    unfold cpB
    by_cases q : k = s
    · subst q
      rw [if_pos rfl] at hr
      cases hr
      rw [if_pos (by omega)]
      exact congrArg f (by omega)
    · rw [if_neg q] at hr
      rw [if_neg (by omega)]
      exact h7 k r hk hr i hi
theorem n_save_l (hs : s < 2) (hk : ∀ M, MAt M b I2 (stg A2 10 (cpB (A2 10) (A2 1) (947 * s) (947))) → Out M0 M b 13 → WP mX8_save 57 [some (.ref b), some (.int (nI s)), some (.int (nI (947)))] [] M z 0 0 Φ) : ∀ d k {M : Hp}, k + d = 947 → MAt M b I2 (stg A2 10 (cpB (A2 10) (A2 1) (947 * s) (k))) → Out M0 M b 13 → WP mX8_save 26 [some (.ref b), some (.int (nI s)), some (.int (nI (k)))] [] M z 0 0 Φ := by
  intro d
  induction d with
  | zero =>
    intro k M hkd hA hO
    obtain rfl : k = 947 := by omega
    refine g_iload_2 dX8_save_26 ?_
    refine g_sipush (v := nI 947) dX8_save_27 rfl ?_
    refine g_icmp_geN (tgt := 57) dX8_save_30 (by decide) (by omega) (by omega) (fun _ => ?_) (fun h30 => absurd h30 (by omega))
    exact hk M hA hO
  | succ d ih =>
    intro k M hkd hA hO
    refine g_iload_2 dX8_save_26 ?_
    refine g_sipush (v := nI 947) dX8_save_27 rfl ?_
    refine g_icmp_geN (tgt := 57) dX8_save_30 (by decide) (by omega) (by omega) (fun h30 => absurd h30 (by omega)) (fun _ => ?_)
    refine g_aload_0 dX8_save_33 ?_
    refine g_get dX8_save_34 (fX8_37 rfl) hA.1 rfl ?_
    refine g_sipush (v := nI 947) dX8_save_37 rfl ?_
    refine g_iload_1 dX8_save_40 ?_
    refine g_imulN dX8_save_41 ?_
    refine g_iload_2 dX8_save_42 ?_
    refine g_iaddN dX8_save_43 ?_
    refine g_aload_0 dX8_save_44 ?_
    refine g_get dX8_save_45 (fX8_7 rfl) hA.1 rfl ?_
    refine g_iload_2 dX8_save_48 ?_
    refine g_ialdN dX8_save_49 hA.2.1 (by omega) (by decide) ?_
    rw [show stg A2 10 (cpB (A2 10) (A2 1) (947 * s) (k)) 1 k = A2 1 k from congrFun (stg_ne (by decide)) _]
    refine g_iastN dX8_save_50 hA.2.2.2.2.2.2.2.2.2.2.1 (by omega) (by decide) ?_
    have hA9 := hA.a10 (g := cpB (A2 10) (A2 1) (947 * s) (k + 1))
    rw [stg_stg] at hA9
    rw [show stg A2 10 (cpB (A2 10) (A2 1) (947 * s) (k)) 10 = cpB (A2 10) (A2 1) (947 * s) k from stg_eq, cpB_step]
    refine g_iincN_2 (q := 1) rfl dX8_save_51 rfl ?_
    refine g_goto (tgt := 26) dX8_save_54 (by decide) ?_
    exact ih (k + 1) (by omega) hA9 (hO.tr (Out.put (by omega) (by omega)))
theorem n_save_x1 (hA : MAt M b I A) (hr : MRel I A f t n h sv len g) (hx : x < 0 ∨ nI 2 ≤ x) : Runs mX8_save [.ref b, .int x] M z (MoQ (some (.int (nI 0))) 1 M b (f) (t) n h sv len g z) := by
  obtain ⟨rfl, rfl, h12, hn14, h9, ⟨h11, h10⟩, h16, hl, hT⟩ := id hr
  refine runs_of plX8 rfl (Nat.le_of_ble_eq_true rfl) ?_
  show WP mX8_save 0 [some (.ref b), some (.int x), none] [] M z 0 0 _
  refine g_aload_0 dX8_save_0 ?_
  refine g_iload_1 dX8_save_1 ?_
  refine g_i2l dX8_save_2 ?_
  refine g_lconst (vl := 0) dX8_save_3 rfl ?_
  refine g_lconst (vl := 1) dX8_save_4 rfl ?_
  refine g_s3_1 dX8_save_5 (sX8_53 rfl) rfl (Nat.le_of_ble_eq_true rfl) ⟨rfl, rfl⟩ (Nat.le_of_ble_eq_true rfl) (Nat.le_of_ble_eq_true rfl) (m_in_x (lo := 0) (hi := 1) (out0 (by omega) hx) (by omega) (by omega) rfl rfl) ?_
  refine g_if_eqB (tgt := 15) dX8_save_8 (by decide)  (fun _ => ?_) (fun h8 => absurd h8 (by decide))
  refine g_iconst (v := nI 1) dX8_save_15 rfl ?_
  refine g_v1 dX8_save_16 (vX8_149 rfl) rfl hA.1 (Nat.le_of_ble_eq_true rfl) (Nat.le_of_ble_eq_true rfl) (Nat.le_of_ble_eq_true rfl) (m_refk hA (by omega) (by omega)) (fun r1 M1 z1 hq1 => ?_) (fun E M2 z2 hq => by obtain ⟨hq, -⟩ := hq; cases hq)
  obtain ⟨hr1, hA1, hO1, hz1⟩ := hq1
  cases hr1
  subst hz1
  refine g_if_eqB (tgt := 24) dX8_save_19 (by decide)  (fun h19 => absurd h19 (by decide)) (fun _ => ?_)
  refine g_iconst (v := nI 0) dX8_save_22 rfl ?_
  exact g_ireturn rfl rfl dX8_save_23 (Nat.le_of_ble_eq_true rfl) (Nat.le_of_ble_eq_true rfl) ⟨rfl, ⟨_, _, hA1, upd_eq, hr.i0⟩, hO1, rfl⟩
theorem n_save (hA : MAt M b I A) (hr : MRel I A f t n h sv len g) (hs : s < 2) : Runs mX8_save [.ref b, .int (nI s)] M z (MoQ (some (.int (nI (cnt (fun i => hasL (f (144 + i))) 144)))) 0 M b (f) (t) n h (svU sv s f) len g z) := by
  obtain ⟨rfl, rfl, h12, hn14, h9, ⟨h11, h10⟩, h16, hl, hT⟩ := id hr
  refine runs_of plX8 rfl (Nat.le_of_ble_eq_true rfl) ?_
  show WP mX8_save 0 [some (.ref b), some (.int (nI s)), none] [] M z 0 0 _
  refine g_aload_0 dX8_save_0 ?_
  refine g_iload_1 dX8_save_1 ?_
  refine g_i2l dX8_save_2 ?_
  refine g_lconst (vl := 0) dX8_save_3 rfl ?_
  refine g_lconst (vl := 1) dX8_save_4 rfl ?_
  refine g_s3_1 dX8_save_5 (sX8_53 rfl) rfl (Nat.le_of_ble_eq_true rfl) ⟨rfl, rfl⟩ (Nat.le_of_ble_eq_true rfl) (Nat.le_of_ble_eq_true rfl) (m_in_ok (lo := 0) (hi := 1) (by omega) (by omega) (by omega) rfl rfl) ?_
  refine g_if_eqB (tgt := 15) dX8_save_8 (by decide)  (fun h8 => absurd h8 (by decide)) (fun _ => ?_)
  refine g_iconst (v := nI 0) dX8_save_11 rfl ?_
  refine g_goto (tgt := 16) dX8_save_12 (by decide) ?_
  refine g_v1 dX8_save_16 (vX8_149 rfl) rfl hA.1 (Nat.le_of_ble_eq_true rfl) (Nat.le_of_ble_eq_true rfl) (Nat.le_of_ble_eq_true rfl) (m_ref0 hA) (fun r1 M1 z1 hq1 => ?_) (fun E M2 z2 hq => by obtain ⟨hq, -⟩ := hq; cases hq)
  obtain ⟨hr1, hA1, hO1, hz1⟩ := hq1
  cases hr1
  subst hz1
  refine g_if_eqB (tgt := 24) dX8_save_19 (by decide)  (fun _ => ?_) (fun h19 => absurd h19 (by decide))
  refine g_iconst (v := nI 0) dX8_save_24 rfl ?_
  refine g_istore_2 rfl dX8_save_25 ?_
  refine n_save_l (A2 := A) hs (fun M4 hA4 hO4 => ?_) 947 0 rfl (by rw [show cpB (A 10) (A 1) (947 * s) 0 = A 10 from by funext k; exact if_neg (by omega), stg_self]; exact hA1) hO1
  refine g_aload_0 dX8_save_57 ?_
  refine g_get dX8_save_58 (fX8_40 rfl) hA4.1 rfl ?_
  refine g_iload_1 dX8_save_61 ?_
  refine g_iconst (v := nI 1) dX8_save_62 rfl ?_
  refine g_zastN dX8_save_63 hA4.2.2.2.2.2.2.2.2.2.2.2.1 (by omega) (by decide) rfl ?_
  have hA5 := hA4.a11 (g := upd (A 11) s (nI 1))
  rw [show stg A 10 (cpB (A 10) (A 1) (947 * s) 947) 11 = A 11 from stg_ne (by decide)]
  refine g_aload_0 dX8_save_64 ?_
  refine g_get dX8_save_65 (fX8_7 rfl) hA5.1 rfl ?_
  refine g_s1_1 dX8_save_68 (sX8_207 rfl) rfl (Nat.le_of_ble_eq_true rfl) ⟨rfl, rfl⟩ (Nat.le_of_ble_eq_true rfl) (Nat.le_of_ble_eq_true rfl) (m_loops (f := A 1) hA5.2.1) ?_
  exact g_ireturn rfl rfl dX8_save_71 (Nat.le_of_ble_eq_true rfl) (Nat.le_of_ble_eq_true rfl) ⟨rfl, ⟨_, _, hA5, upd_eq, hr.i0.sav hs⟩, hO4.tr (Out.put (by omega) (by omega)), rfl⟩
theorem kept_row {r : Row} (h10 : ∀ s r, s < 2 → sv s = some r → ∀ i, i < 947 → A 10 (947 * s + i) = r i) (hs : s < 2) (hsv : sv s = some r) : mx 947 (fun i => A 10 (947 * s + i)) f0 = mx 947 r f0 := by
  funext k
  unfold mx
  by_cases e : k < 947
  · rw [if_pos e, if_pos e]
    exact h10 s r hs hsv k e
  · rw [if_neg e, if_neg e]
theorem MRel.rst {r : Row} (hr : MRel I A f t n h sv len g) : MRel (upd (upd I 0 v) 12 (nI 0)) (stg A 1 (mx 947 r f)) (mx 947 r f) t 0 h sv len g := by
  obtain ⟨h1, h2, h3, h4, h5, ⟨h6, h7⟩, h8, h9, h10, h11⟩ := hr
  exact ⟨stg_eq, (stg_ne (by decide)).trans h2, upd_eq, by omega, fun k hk => absurd hk (by omega), ⟨by rw [stg_ne (by decide)]; exact h6, by rw [stg_ne (by decide)]; exact h7⟩, (upd_ne (by decide)).trans ((upd_ne (by decide)).trans h8), h9, by show ∀ i, i < len → stg A 1 _ 12 i = nI (g i); rw [stg_ne (by decide)]; exact h10, h11⟩
theorem n_rest_l (hs : s < 2) (hk : ∀ M, MAt M b I2 (stg A2 1 (mx (947) (fun i => A2 10 (947 * s + i)) f0)) → Out M0 M b 13 → WP mX8_restore 70 [some (.ref b), some (.int (nI s)), some (.int (nI (947)))] [] M z 0 0 Φ) : ∀ d k {M : Hp}, k + d = 947 → MAt M b I2 (stg A2 1 (mx (k) (fun i => A2 10 (947 * s + i)) f0)) → Out M0 M b 13 → WP mX8_restore 39 [some (.ref b), some (.int (nI s)), some (.int (nI (k)))] [] M z 0 0 Φ := by
  intro d
  induction d with
  | zero =>
    intro k M hkd hA hO
    obtain rfl : k = 947 := by omega
    refine g_iload_2 dX8_restore_39 ?_
    refine g_sipush (v := nI 947) dX8_restore_40 rfl ?_
    refine g_icmp_geN (tgt := 70) dX8_restore_43 (by decide) (by omega) (by omega) (fun _ => ?_) (fun h43 => absurd h43 (by omega))
    exact hk M hA hO
  | succ d ih =>
    intro k M hkd hA hO
    refine g_iload_2 dX8_restore_39 ?_
    refine g_sipush (v := nI 947) dX8_restore_40 rfl ?_
    refine g_icmp_geN (tgt := 70) dX8_restore_43 (by decide) (by omega) (by omega) (fun h43 => absurd h43 (by omega)) (fun _ => ?_)
    refine g_aload_0 dX8_restore_46 ?_
    refine g_get dX8_restore_47 (fX8_7 rfl) hA.1 rfl ?_
    refine g_iload_2 dX8_restore_50 ?_
    refine g_aload_0 dX8_restore_51 ?_
    refine g_get dX8_restore_52 (fX8_37 rfl) hA.1 rfl ?_
    refine g_sipush (v := nI 947) dX8_restore_55 rfl ?_
    refine g_iload_1 dX8_restore_58 ?_
    refine g_imulN dX8_restore_59 ?_
    refine g_iload_2 dX8_restore_60 ?_
    refine g_iaddN dX8_restore_61 ?_
    refine g_ialdN dX8_restore_62 hA.2.2.2.2.2.2.2.2.2.2.1 (by omega) (by decide) ?_
    rw [show stg A2 1 (mx k (fun i => A2 10 (947 * s + i)) f0) 10 (947 * s + k) = A2 10 (947 * s + k) from congrFun (stg_ne (by decide)) _]
    refine g_iastN dX8_restore_63 hA.2.1 (by omega) (by decide) ?_
    have hA9 := hA.a1 (g := mx (k + 1) (fun i => A2 10 (947 * s + i)) f0)
    rw [stg_stg] at hA9
    rw [show stg A2 1 (mx k (fun i => A2 10 (947 * s + i)) f0) 1 = mx k (fun i => A2 10 (947 * s + i)) f0 from stg_eq, show upd (mx k (fun i => A2 10 (947 * s + i)) f0) k _ = mx (k + 1) (fun i => A2 10 (947 * s + i)) f0 from mx_step (f := fun i => A2 10 (947 * s + i))]
    refine g_iincN_2 (q := 1) rfl dX8_restore_64 rfl ?_
    refine g_goto (tgt := 39) dX8_restore_67 (by decide) ?_
    exact ih (k + 1) (by omega) hA9 (hO.tr (Out.put (by omega) (by omega)))
theorem n_restore_x1 (hA : MAt M b I A) (hr : MRel I A f t n h sv len g) (hx : x < 0 ∨ nI 2 ≤ x) : Runs mX8_restore [.ref b, .int x] M z (MoQ (some (.int (nI 0))) 1 M b (f) (t) n h sv len g z) := by
  obtain ⟨rfl, rfl, h12, hn14, h9, ⟨h11, h10⟩, h16, hl, hT⟩ := id hr
  refine runs_of plX8 rfl (Nat.le_of_ble_eq_true rfl) ?_
  show WP mX8_restore 0 [some (.ref b), some (.int x), none] [] M z 0 0 _
  refine g_aload_0 dX8_restore_0 ?_
  refine g_iload_1 dX8_restore_1 ?_
  refine g_i2l dX8_restore_2 ?_
  refine g_lconst (vl := 0) dX8_restore_3 rfl ?_
  refine g_lconst (vl := 1) dX8_restore_4 rfl ?_
  refine g_s3_1 dX8_restore_5 (sX8_53 rfl) rfl (Nat.le_of_ble_eq_true rfl) ⟨rfl, rfl⟩ (Nat.le_of_ble_eq_true rfl) (Nat.le_of_ble_eq_true rfl) (m_in_x (lo := 0) (hi := 1) (out0 (by omega) hx) (by omega) (by omega) rfl rfl) ?_
  refine g_if_neB (tgt := 15) dX8_restore_8 (by decide)  (fun h8 => absurd h8 (by decide)) (fun _ => ?_)
  refine g_iconst (v := nI 1) dX8_restore_11 rfl ?_
  refine g_goto (tgt := 29) dX8_restore_12 (by decide) ?_
  refine g_v1 dX8_restore_29 (vX8_149 rfl) rfl hA.1 (Nat.le_of_ble_eq_true rfl) (Nat.le_of_ble_eq_true rfl) (Nat.le_of_ble_eq_true rfl) (m_refk hA (by omega) (by omega)) (fun r1 M1 z1 hq1 => ?_) (fun E M2 z2 hq => by obtain ⟨hq, -⟩ := hq; cases hq)
  obtain ⟨hr1, hA1, hO1, hz1⟩ := hq1
  cases hr1
  subst hz1
  refine g_if_eqB (tgt := 37) dX8_restore_32 (by decide)  (fun h32 => absurd h32 (by decide)) (fun _ => ?_)
  refine g_iconst (v := nI 0) dX8_restore_35 rfl ?_
  exact g_ireturn rfl rfl dX8_restore_36 (Nat.le_of_ble_eq_true rfl) (Nat.le_of_ble_eq_true rfl) ⟨rfl, ⟨_, _, hA1, upd_eq, hr.i0⟩, hO1, rfl⟩
theorem n_restore_x2 (hA : MAt M b I A) (hr : MRel I A f t n h sv len g) (hs : s < 2) (hsv : sv s = none) : Runs mX8_restore [.ref b, .int (nI s)] M z (MoQ (some (.int (nI 0))) 2 M b (f) (t) n h sv len g z) := by
  obtain ⟨rfl, rfl, h12, hn14, h9, ⟨h11, h10⟩, h16, hl, hT⟩ := id hr
  refine runs_of plX8 rfl (Nat.le_of_ble_eq_true rfl) ?_
  show WP mX8_restore 0 [some (.ref b), some (.int (nI s)), none] [] M z 0 0 _
  refine g_aload_0 dX8_restore_0 ?_
  refine g_iload_1 dX8_restore_1 ?_
  refine g_i2l dX8_restore_2 ?_
  refine g_lconst (vl := 0) dX8_restore_3 rfl ?_
  refine g_lconst (vl := 1) dX8_restore_4 rfl ?_
  refine g_s3_1 dX8_restore_5 (sX8_53 rfl) rfl (Nat.le_of_ble_eq_true rfl) ⟨rfl, rfl⟩ (Nat.le_of_ble_eq_true rfl) (Nat.le_of_ble_eq_true rfl) (m_in_ok (lo := 0) (hi := 1) (by omega) (by omega) (by omega) rfl rfl) ?_
  refine g_if_neB (tgt := 15) dX8_restore_8 (by decide)  (fun _ => ?_) (fun h8 => absurd h8 (by decide))
  refine g_aload_0 dX8_restore_15 ?_
  refine g_get dX8_restore_16 (fX8_40 rfl) hA.1 rfl ?_
  refine g_iload_1 dX8_restore_19 ?_
  refine g_zaldN dX8_restore_20 hA.2.2.2.2.2.2.2.2.2.2.2.1 (by omega) (by decide) ?_
  rw [h11 s hs, hsv, show bI (none : Option Row).isSome = bI false from rfl]
  refine g_if_neB (tgt := 28) dX8_restore_21 (by decide)  (fun h21 => absurd h21 (by decide)) (fun _ => ?_)
  refine g_iconst (v := nI 2) dX8_restore_24 rfl ?_
  refine g_goto (tgt := 29) dX8_restore_25 (by decide) ?_
  refine g_v1 dX8_restore_29 (vX8_149 rfl) rfl hA.1 (Nat.le_of_ble_eq_true rfl) (Nat.le_of_ble_eq_true rfl) (Nat.le_of_ble_eq_true rfl) (m_refk hA (by omega) (by omega)) (fun r1 M1 z1 hq1 => ?_) (fun E M2 z2 hq => by obtain ⟨hq, -⟩ := hq; cases hq)
  obtain ⟨hr1, hA1, hO1, hz1⟩ := hq1
  cases hr1
  subst hz1
  refine g_if_eqB (tgt := 37) dX8_restore_32 (by decide)  (fun h32 => absurd h32 (by decide)) (fun _ => ?_)
  refine g_iconst (v := nI 0) dX8_restore_35 rfl ?_
  exact g_ireturn rfl rfl dX8_restore_36 (Nat.le_of_ble_eq_true rfl) (Nat.le_of_ble_eq_true rfl) ⟨rfl, ⟨_, _, hA1, upd_eq, hr.i0⟩, hO1, rfl⟩
theorem n_restore (hA : MAt M b I A) (hr : MRel I A f t n h sv len g) (hs : s < 2) {r : Row} (hsv : sv s = some r) : Runs mX8_restore [.ref b, .int (nI s)] M z (MoQ (some (.int (nI (cnt (fun i => hasL (mx 947 r f (144 + i))) 144)))) 0 M b (mx 947 r f) (t) 0 h sv len g z) := by
  obtain ⟨rfl, rfl, h12, hn14, h9, ⟨h11, h10⟩, h16, hl, hT⟩ := id hr
  refine runs_of plX8 rfl (Nat.le_of_ble_eq_true rfl) ?_
  show WP mX8_restore 0 [some (.ref b), some (.int (nI s)), none] [] M z 0 0 _
  refine g_aload_0 dX8_restore_0 ?_
  refine g_iload_1 dX8_restore_1 ?_
  refine g_i2l dX8_restore_2 ?_
  refine g_lconst (vl := 0) dX8_restore_3 rfl ?_
  refine g_lconst (vl := 1) dX8_restore_4 rfl ?_
  refine g_s3_1 dX8_restore_5 (sX8_53 rfl) rfl (Nat.le_of_ble_eq_true rfl) ⟨rfl, rfl⟩ (Nat.le_of_ble_eq_true rfl) (Nat.le_of_ble_eq_true rfl) (m_in_ok (lo := 0) (hi := 1) (by omega) (by omega) (by omega) rfl rfl) ?_
  refine g_if_neB (tgt := 15) dX8_restore_8 (by decide)  (fun _ => ?_) (fun h8 => absurd h8 (by decide))
  refine g_aload_0 dX8_restore_15 ?_
  refine g_get dX8_restore_16 (fX8_40 rfl) hA.1 rfl ?_
  refine g_iload_1 dX8_restore_19 ?_
  refine g_zaldN dX8_restore_20 hA.2.2.2.2.2.2.2.2.2.2.2.1 (by omega) (by decide) ?_
  rw [h11 s hs, hsv, show bI (some r).isSome = bI true from rfl]
  refine g_if_neB (tgt := 28) dX8_restore_21 (by decide)  (fun _ => ?_) (fun h21 => absurd h21 (by decide))
  refine g_iconst (v := nI 0) dX8_restore_28 rfl ?_
  refine g_v1 dX8_restore_29 (vX8_149 rfl) rfl hA.1 (Nat.le_of_ble_eq_true rfl) (Nat.le_of_ble_eq_true rfl) (Nat.le_of_ble_eq_true rfl) (m_ref0 hA) (fun r1 M1 z1 hq1 => ?_) (fun E M2 z2 hq => by obtain ⟨hq, -⟩ := hq; cases hq)
  obtain ⟨hr1, hA1, hO1, hz1⟩ := hq1
  cases hr1
  subst hz1
  refine g_if_eqB (tgt := 37) dX8_restore_32 (by decide)  (fun _ => ?_) (fun h32 => absurd h32 (by decide))
  refine g_iconst (v := nI 0) dX8_restore_37 rfl ?_
  refine g_istore_2 rfl dX8_restore_38 ?_
  refine n_rest_l (A2 := A) (f0 := A 1) hs (fun M4 hA4 hO4 => ?_) 947 0 rfl (by rw [show mx 0 (fun i => A 10 (947 * s + i)) (A 1) = A 1 from by funext k; exact if_neg (by omega), stg_self]; exact hA1) hO1
  rw [kept_row h10 hs hsv] at hA4
  refine g_aload_0 dX8_restore_70 ?_
  refine g_iconst (v := nI 0) dX8_restore_71 rfl ?_
  refine g_putI12 dX8_restore_72 (fX8_138 rfl) hA4 (fun M5 hA5 n5 => ?_)
  have hao5 := hA5.1
  refine g_aload_0 dX8_restore_75 ?_
  refine g_get dX8_restore_76 (fX8_7 rfl) hA5.1 rfl ?_
  refine g_s1_1 dX8_restore_79 (sX8_207 rfl) rfl (Nat.le_of_ble_eq_true rfl) ⟨rfl, rfl⟩ (Nat.le_of_ble_eq_true rfl) (Nat.le_of_ble_eq_true rfl) (m_loops (f := mx 947 r (A 1)) hA5.2.1) ?_
  exact g_ireturn rfl rfl dX8_restore_82 (Nat.le_of_ble_eq_true rfl) (Nat.le_of_ble_eq_true rfl) ⟨rfl, ⟨_, _, hA5, (upd_ne (by decide)).trans upd_eq, hr.rst⟩, hO4.tr (fun q hq => n5 q (by omega)), rfl⟩
end P72
