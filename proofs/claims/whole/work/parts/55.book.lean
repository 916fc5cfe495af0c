section P55
variable {M M0 : Hp} {z b c d e j i n t p q s ns : Nat} {f g : Row} {x y w v G : Int32} {I I0 : Row} {A A0 : Nat → Row} {B : Row} {Φ : GR → Hp → Nat → Prop}
def shB (B : Row) (t : Nat) : Row := fun i => if i < t then B (947 + i) else B i
theorem shB_step : upd (shB B t) t (B (947 + t)) = shB B (t + 1) := by
  funext k
  simp only [upd, shB]
  by_cases h : k = t
  · subst h
    rw [if_pos rfl, if_pos (by omega)]
  · rw [if_neg h]
    by_cases h2 : k < t
    · rw [if_pos h2, if_pos (by omega)]
    · rw [if_neg h2, if_neg (by omega)]
def cpB (B f : Row) (o t : Nat) : Row := fun i => if o ≤ i ∧ i < o + t then f (i - o) else B i
theorem cpB_step {o : Nat} : upd (cpB B f o t) (o + t) (f t) = cpB B f o (t + 1) := by
  funext k
  simp only [upd, cpB]
  by_cases h : k = o + t
  · subst h
    rw [if_pos rfl, if_pos (by omega), Nat.add_sub_cancel_left]
  · rw [if_neg h]
    by_cases h2 : o ≤ k ∧ k < o + t
    · rw [if_pos h2, if_pos (by omega)]
    · rw [if_neg h2, if_neg (by omega)]
/-- what the book holds when one more state is remembered -/
def remB (B f : Row) (ns : Nat) : Row := if ns = 14 then cpB (shB B 12311) f (947 * 13) 947 else cpB B f (947 * ns) 947
def remN (ns : Nat) : Nat := if ns = 14 then 14 else ns + 1
theorem stg_stg : stg (stg A i f) i g = stg A i g := by
  funext k
  unfold stg
  split <;> rfl
theorem stg_self : stg A i (A i) = A := by
  funext k
  unfold stg
  split
  · next h => rw [h]
  · rfl
theorem m_rem_s (hk : ∀ M, MAt M b I (stg A 9 (shB (A 9) 12311)) → Out M0 M b 13 → WP mX8_remember 40 [some (.ref b), some (.int (nI 12311))] [] M z 0 0 Φ) : ∀ d i {M : Hp}, i + d = 12311 → MAt M b I (stg A 9 (shB (A 9) i)) → Out M0 M b 13 → WP mX8_remember 11 [some (.ref b), some (.int (nI i))] [] M z 0 0 Φ := by
  intro d
  induction d with
  | zero =>
    intro i M hi hA hO
    obtain rfl : i = 12311 := by omega
    refine g_iload_1 dX8_remember_11 ?_
    refine g_sipush (v := nI 12311) dX8_remember_12 rfl ?_
    refine g_icmp_geN (tgt := 40) dX8_remember_15 (by decide) (by omega) (by omega) (fun _ => ?_) (fun h15 => absurd h15 (by omega))
    exact hk M hA hO
  | succ d ih =>
    intro i M hi hA hO
    refine g_iload_1 dX8_remember_11 ?_
    refine g_sipush (v := nI 12311) dX8_remember_12 rfl ?_
    refine g_icmp_geN (tgt := 40) dX8_remember_15 (by decide) (by omega) (by omega) (fun h15 => absurd h15 (by omega)) (fun _ => ?_)
    refine g_aload_0 dX8_remember_18 ?_
    refine g_get dX8_remember_19 (fX8_34 rfl) hA.1 rfl ?_
    refine g_iload_1 dX8_remember_22 ?_
    refine g_aload_0 dX8_remember_23 ?_
    refine g_get dX8_remember_24 (fX8_34 rfl) hA.1 rfl ?_
    refine g_sipush (v := nI 947) dX8_remember_27 rfl ?_
    refine g_iload_1 dX8_remember_30 ?_
    refine g_iaddN dX8_remember_31 ?_
    refine g_ialdN dX8_remember_32 hA.2.2.2.2.2.2.2.2.2.1 (by omega) (by decide) ?_
    rw [show stg A 9 (shB (A 9) i) 9 (947 + i) = A 9 (947 + i) from by rw [stg_eq]; exact if_neg (by omega)]
    refine g_iastN dX8_remember_33 hA.2.2.2.2.2.2.2.2.2.1 (by omega) (by decide) ?_
    have hA1 := hA.a9 (g := upd (stg A 9 (shB (A 9) i) 9) i (A 9 (947 + i)))
    rw [stg_stg, stg_eq, shB_step] at hA1
    rw [stg_eq, shB_step]
    refine g_iincN_1 (q := 1) rfl dX8_remember_34 rfl ?_
    refine g_goto (tgt := 11) dX8_remember_37 (by decide) ?_
    exact ih (i + 1) (by omega) hA1 (hO.tr (Out.put (by omega) (by omega)))
theorem m_rem_c (hns : I 12 = nI ns) (hn9 : ns < 14) (hk : ∀ M, MAt M b I (stg A 9 (cpB (A 9) (A 1) (947 * ns) 947)) → Out M0 M b 13 → WP mX8_remember 86 [some (.ref b), some (.int (nI 947))] [] M z 0 0 Φ) : ∀ d i {M : Hp}, i + d = 947 → MAt M b I (stg A 9 (cpB (A 9) (A 1) (947 * ns) i)) → Out M0 M b 13 → WP mX8_remember 52 [some (.ref b), some (.int (nI i))] [] M z 0 0 Φ := by
  intro d
  induction d with
  | zero =>
    intro i M hi hA hO
    obtain rfl : i = 947 := by omega
    refine g_iload_1 dX8_remember_52 ?_
    refine g_sipush (v := nI 947) dX8_remember_53 rfl ?_
    refine g_icmp_geN (tgt := 86) dX8_remember_56 (by decide) (by omega) (by omega) (fun _ => ?_) (fun h56 => absurd h56 (by omega))
    exact hk M hA hO
  | succ d ih =>
    intro i M hi hA hO
    refine g_iload_1 dX8_remember_52 ?_
    refine g_sipush (v := nI 947) dX8_remember_53 rfl ?_
    refine g_icmp_geN (tgt := 86) dX8_remember_56 (by decide) (by omega) (by omega) (fun h56 => absurd h56 (by omega)) (fun _ => ?_)
    refine g_aload_0 dX8_remember_59 ?_
    refine g_get dX8_remember_60 (fX8_34 rfl) hA.1 rfl ?_
    refine g_sipush (v := nI 947) dX8_remember_63 rfl ?_
    refine g_aload_0 dX8_remember_66 ?_
    refine g_get dX8_remember_67 (fX8_138 rfl) hA.1 rfl ?_
    rw [hns]
    refine g_imulN dX8_remember_70 ?_
    refine g_iload_1 dX8_remember_71 ?_
    refine g_iaddN dX8_remember_72 ?_
    refine g_aload_0 dX8_remember_73 ?_
    refine g_get dX8_remember_74 (fX8_7 rfl) hA.1 rfl ?_
    refine g_iload_1 dX8_remember_77 ?_
    refine g_ialdN dX8_remember_78 hA.2.1 (by omega) (by decide) ?_
    rw [show stg A 9 (cpB (A 9) (A 1) (947 * ns) i) 1 i = A 1 i from rfl]
    refine g_iastN dX8_remember_79 hA.2.2.2.2.2.2.2.2.2.1 (by omega) (by decide) ?_
    have hA1 := hA.a9 (g := upd (stg A 9 (cpB (A 9) (A 1) (947 * ns) i) 9) (947 * ns + i) (A 1 i))
    rw [stg_stg, stg_eq, cpB_step] at hA1
    rw [stg_eq, cpB_step]
    refine g_iincN_1 (q := 1) rfl dX8_remember_80 rfl ?_
    refine g_goto (tgt := 52) dX8_remember_83 (by decide) ?_
    exact ih (i + 1) (by omega) hA1 (hO.tr (Out.put (by omega) (by omega)))
theorem m_rem50 {l1 : Option Value} (hA : MAt M b I A) (hns : I 12 = nI ns) (hn9 : ns < 14) (hO : Out M0 M b 13) : WP mX8_remember 50 [some (.ref b), l1] [] M z 0 0 (MMut none M0 b (upd I 12 (nI (ns + 1))) (stg A 9 (cpB (A 9) (A 1) (947 * ns) 947)) z) := by
  refine g_iconst (v := nI 0) dX8_remember_50 rfl ?_
  refine g_istore_1 rfl dX8_remember_51 ?_
  refine m_rem_c hns hn9 (fun M1 hA1 hO1 => ?_) 947 0 rfl (by rw [show cpB (A 9) (A 1) (947 * ns) 0 = A 9 from by funext k; exact if_neg (by omega), stg_self]; exact hA) hO
  refine g_aload_0 dX8_remember_86 ?_
  refine g_dup dX8_remember_87 rfl ?_
  refine g_get dX8_remember_88 (fX8_138 rfl) hA1.1 rfl ?_
  rw [hns]
  refine g_iconst (v := nI 1) dX8_remember_91 rfl ?_
  refine g_iaddN dX8_remember_92 ?_
  refine g_putI12 dX8_remember_93 (fX8_138 rfl) hA1 (fun M2 hA2 n2 => ?_)
  have hao2 := hA2.1
  exact g_return rfl dX8_remember_96 (Nat.le_of_ble_eq_true rfl) (Nat.le_of_ble_eq_true rfl) ⟨rfl, hA2, hO1.tr (fun q hq => n2 q (by omega)), rfl⟩
theorem m_remember (hA : MAt M b I A) (hns : I 12 = nI ns) (hn : ns ≤ 14) : Runs mX8_remember [.ref b] M z (MMut none M b (upd I 12 (nI (remN ns))) (stg A 9 (remB (A 9) (A 1) ns)) z) := by
  unfold remN remB
  by_cases h14 : ns = 14
  · rw [if_pos h14, if_pos h14]
    subst h14
    refine runs_of plX8 rfl (Nat.le_of_ble_eq_true rfl) ?_
    show WP mX8_remember 0 [some (.ref b), none] [] M z 0 0 _
    refine g_aload_0 dX8_remember_0 ?_
    refine g_get dX8_remember_1 (fX8_138 rfl) hA.1 rfl ?_
    rw [hns]
    refine g_bipush (v := nI 14) dX8_remember_4 rfl ?_
    refine g_icmp_neN (tgt := 50) dX8_remember_6 (by decide) (by omega) (by omega) (fun h6 => absurd rfl h6) (fun _ => ?_)
    refine g_iconst (v := nI 0) dX8_remember_9 rfl ?_
    refine g_istore_1 rfl dX8_remember_10 ?_
    refine m_rem_s (M0 := M) (fun M1 hA1 hO1 => ?_) 12311 0 rfl (by rw [show shB (A 9) 0 = A 9 from by funext k; exact if_neg (by omega), stg_self]; exact hA) Out.rf
    refine g_aload_0 dX8_remember_40 ?_
    refine g_dup dX8_remember_41 rfl ?_
    refine g_get dX8_remember_42 (fX8_138 rfl) hA1.1 rfl ?_
    rw [hns]
    refine g_iconst (v := nI 1) dX8_remember_45 rfl ?_
    refine g_isubN dX8_remember_46 (by omega) ?_
    refine g_putI12 dX8_remember_47 (fX8_138 rfl) hA1 (fun M2 hA2 n2 => ?_)
    have hao2 := hA2.1
    have e := m_rem50 (l1 := some (.int (nI 12311))) (z := z) (M0 := M) hA2 (ns := 13) rfl (by decide) (hO1.tr (fun q hq => n2 q (by omega)))
    rw [stg_stg, stg_eq, stg_ne (show (1 : Nat) ≠ 9 from by decide), upd_upd] at e
    exact e
  · rw [if_neg h14, if_neg h14]
    refine runs_of plX8 rfl (Nat.le_of_ble_eq_true rfl) ?_
    show WP mX8_remember 0 [some (.ref b), none] [] M z 0 0 _
    refine g_aload_0 dX8_remember_0 ?_
    refine g_get dX8_remember_1 (fX8_138 rfl) hA.1 rfl ?_
    rw [hns]
    refine g_bipush (v := nI 14) dX8_remember_4 rfl ?_
    refine g_icmp_neN (tgt := 50) dX8_remember_6 (by decide) (by omega) (by omega) (fun _ => ?_) (fun h6 => absurd h6 (by omega))
    exact m_rem50 hA hns (by omega) Out.rf
theorem m_change (hA : MAt M b I A) (hns : I 12 = nI ns) (hn : ns ≤ 14) (hi : i < 947) : Runs mX8_change [.ref b, .int (nI i), .int x] M z (MMut (some (.int (A 1 i))) M b (upd I 12 (nI (remN ns))) (stg (stg A 9 (remB (A 9) (A 1) ns)) 1 (upd (A 1) i x)) z) := by
  have hao := hA.1
  refine runs_of plX8 rfl (Nat.le_of_ble_eq_true rfl) ?_
  show WP mX8_change 0 [some (.ref b), some (.int (nI i)), some (.int x), none] [] M z 0 0 _
  refine g_aload_0 dX8_change_0 ?_
  refine g_v0 dX8_change_1 (vX8_141 rfl) rfl hao (Nat.le_of_ble_eq_true rfl) (Nat.le_of_ble_eq_true rfl) (Nat.le_of_ble_eq_true rfl) (m_remember hA hns hn) (fun r M2 z2 hq => ?_) (fun E M2 z2 hq => by obtain ⟨hq, -⟩ := hq; cases hq)
  obtain ⟨hr, hA1, hO1, rfl⟩ := hq
  cases hr
  refine g_aload_0 dX8_change_4 ?_
  refine g_get dX8_change_5 (fX8_7 rfl) hA1.1 rfl ?_
  refine g_iload_1 dX8_change_8 ?_
  refine g_ialdN dX8_change_9 hA1.2.1 (by omega) (by decide) ?_
  rw [stg_ne (show (1 : Nat) ≠ 9 from by decide)]
  refine g_istore_3 rfl dX8_change_10 ?_
  refine g_aload_0 dX8_change_11 ?_
  refine g_get dX8_change_12 (fX8_7 rfl) hA1.1 rfl ?_
  refine g_iload_1 dX8_change_15 ?_
  refine g_iload_2 dX8_change_16 ?_
  refine g_iastN dX8_change_17 hA1.2.1 (by omega) (by decide) ?_
  have hA2 := hA1.a1 (g := upd (stg A 9 (remB (A 9) (A 1) ns) 1) i x)
  rw [stg_ne (show (1 : Nat) ≠ 9 from by decide)] at hA2
  rw [stg_ne (show (1 : Nat) ≠ 9 from by decide)]
  refine g_iload_3 dX8_change_18 ?_
  exact g_ireturn rfl rfl dX8_change_19 (Nat.le_of_ble_eq_true rfl) (Nat.le_of_ble_eq_true rfl) ⟨rfl, hA2, hO1.tr (Out.put (by omega) (by omega)), rfl⟩
end P55
