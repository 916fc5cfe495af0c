section P53
variable {M M0 : Hp} {z a b c d e j i n t p q s sp st pb k : Nat} {f : Row} {x y w v od bk lv : Int32} {sc : Nat → Option Nat} {pl gr ti : Row} {g : Nat → Nat} {len : Nat} {T : Nat → Nat → Nat} {Ln : Nat → Nat} {Φ : GR → Hp → Nat → Prop}
variable {tx br gr0 ti0 w u : Nat} {rest : List Lv} {ords : Nat}
def lvI (n : Nat) : Int32 := nI n - nI 1
theorem lvI_s (k : Nat) : lvI (k + 1) = nI k := nI_pm k
def PlayQ (M : Hp) (pb a : Nat) (q : Row × Nat) (z : Nat) : GR → Hp → Nat → Prop := fun r M' z' => r = .inl (some (.int (nI q.2))) ∧ RugF M' a q.1 ∧ (∃ sc pl gr ti lv od bk, PlAt M' pb sc pl gr ti lv od bk) ∧ (∀ b, (b < pb ∨ pb + 5 ≤ b) → (b < a ∨ a + 20 ≤ b) → M' b = M b) ∧ z' = z
theorem q_pl167 {l4 l5 : Option Value} {us : Value} {lv : Int32} (hA : PlAt M pb sc pl gr ti lv od (nI br)) (hF : RugF M a f) (hO : ∀ b, (b < pb ∨ pb + 5 ≤ b) → (b < a ∨ a + 20 ≤ b) → M b = M0 b) : WP mX3_play 167 [some (.ref pb), some (.ref a), some us, some (.int (nI st)), l4, l5] [] M z 0 0 (PlayQ M0 pb a (f, br) z) := by
  refine g_aload_0 dX3_play_167 ?_
  refine g_get dX3_play_168 (fX3_34 rfl) hA.1 rfl ?_
  exact g_ireturn rfl rfl dX3_play_171 (Nat.le_of_ble_eq_true rfl) (Nat.le_of_ble_eq_true rfl) ⟨rfl, hF, ⟨sc, pl, gr, ti, lv, od, nI br, hA⟩, hO, rfl⟩
theorem q_plx {l4 l5 : Option Value} {us : Value} {lv : Int32} (hA : PlAt M pb sc pl gr ti lv (nI ords) (nI br)) (hst : st < 100000) (hn : 400 ≤ ords) (hn9 : ords < 1000) (hk : WP mX3_play 167 [some (.ref pb), some (.ref a), some us, some (.int (nI st)), l4, l5] [] M z 0 0 Φ) : WP mX3_play 23 [some (.ref pb), some (.ref a), some us, some (.int (nI st)), l4, l5] [] M z 0 0 Φ := by
  refine g_iload_3 dX3_play_23 ?_
  refine g_ldc (v := nI 1000000) dX3_play_24 (zX3_41 rfl) ?_
  refine g_icmp_geN (tgt := 167) dX3_play_26 (by decide) (by omega) (by omega) (fun h26 => absurd h26 (by omega)) (fun _ => ?_)
  refine g_aload_0 dX3_play_29 ?_
  refine g_get dX3_play_30 (fX3_31 rfl) hA.1 rfl ?_
  refine g_sipush (v := nI 400) dX3_play_33 rfl ?_
  refine g_icmp_geN (tgt := 167) dX3_play_36 (by decide) (by omega) (by omega) (fun _ => ?_) (fun h36 => absurd h36 (by omega))
  exact hk
theorem q_ple {l4 l5 : Option Value} {us : Value} (hA : PlAt M pb sc pl gr ti (-1) (nI ords) (nI br)) (hst : st < 100000) (hn : ords < 400) (hk : WP mX3_play 167 [some (.ref pb), some (.ref a), some us, some (.int (nI st)), l4, l5] [] M z 0 0 Φ) : WP mX3_play 23 [some (.ref pb), some (.ref a), some us, some (.int (nI st)), l4, l5] [] M z 0 0 Φ := by
  refine g_iload_3 dX3_play_23 ?_
  refine g_ldc (v := nI 1000000) dX3_play_24 (zX3_41 rfl) ?_
  refine g_icmp_geN (tgt := 167) dX3_play_26 (by decide) (by omega) (by omega) (fun h26 => absurd h26 (by omega)) (fun _ => ?_)
  refine g_aload_0 dX3_play_29 ?_
  refine g_get dX3_play_30 (fX3_31 rfl) hA.1 rfl ?_
  refine g_sipush (v := nI 400) dX3_play_33 rfl ?_
  refine g_icmp_geN (tgt := 167) dX3_play_36 (by decide) (by omega) (by omega) (fun h36 => absurd h36 (by omega)) (fun _ => ?_)
  refine g_aload_0 dX3_play_39 ?_
  refine g_get dX3_play_40 (fX3_27 rfl) hA.1 rfl ?_
  refine g_if_lt (tgt := 167) dX3_play_43 (by decide)  (fun _ => ?_) (fun h43 => absurd (by decide) h43)
  exact hk
theorem q_plpop {l4 l5 : Option Value} {u0 : Nat} (hA : PlAt M pb sc pl gr ti (nI k) (nI ords) (nI br)) (hst : st < 100000) (hn : ords < 400) (hk5 : k < 5) {len : Nat} (hsc : sc k = some u) (hpl : pl k = nI p) (hS : ScriptAt M u len g) (hl : len ≤ 120) (hp9 : p ≤ 120) (hp : len ≤ p) (hk : ∀ M1, PlAt M1 pb sc pl gr ti (lvI k) (nI ords) (nI br) → Out M M1 pb 5 → WP mX3_play 23 [some (.ref pb), some (.ref a), some (.ref u0), some (.int (nI (st + 1))), some (.ref u), some (.int (nI p))] [] M1 z 0 0 Φ) : WP mX3_play 23 [some (.ref pb), some (.ref a), some (.ref u0), some (.int (nI st)), l4, l5] [] M z 0 0 Φ := by
  refine g_iload_3 dX3_play_23 ?_
  refine g_ldc (v := nI 1000000) dX3_play_24 (zX3_41 rfl) ?_
  refine g_icmp_geN (tgt := 167) dX3_play_26 (by decide) (by omega) (by omega) (fun h26 => absurd h26 (by omega)) (fun _ => ?_)
  refine g_aload_0 dX3_play_29 ?_
  refine g_get dX3_play_30 (fX3_31 rfl) hA.1 rfl ?_
  refine g_sipush (v := nI 400) dX3_play_33 rfl ?_
  refine g_icmp_geN (tgt := 167) dX3_play_36 (by decide) (by omega) (by omega) (fun h36 => absurd h36 (by omega)) (fun _ => ?_)
  refine g_aload_0 dX3_play_39 ?_
  refine g_get dX3_play_40 (fX3_27 rfl) hA.1 rfl ?_
  refine g_if_ltN (tgt := 167) dX3_play_43 (by decide) (by omega) ?_
  refine g_aload_0 dX3_play_46 ?_
  refine g_get dX3_play_47 (fX3_27 rfl) hA.1 rfl ?_
  refine g_iconst (v := nI 5) dX3_play_50 rfl ?_
  refine g_icmp_geN (tgt := 167) dX3_play_51 (by decide) (by omega) (by omega) (fun h51 => absurd h51 (by omega)) (fun _ => ?_)
  refine g_aload_0 dX3_play_54 ?_
  refine g_get dX3_play_55 (fX3_13 rfl) hA.1 rfl ?_
  refine g_aload_0 dX3_play_58 ?_
  refine g_get dX3_play_59 (fX3_27 rfl) hA.1 rfl ?_
  refine g_aaldSN dX3_play_62 hA.2.1 (by omega) (by decide) (by rw [hsc]) ?_
  refine g_astore_4 rfl dX3_play_63 ?_
  refine g_aload_0 dX3_play_65 ?_
  refine g_get dX3_play_66 (fX3_17 rfl) hA.1 rfl ?_
  refine g_aload_0 dX3_play_69 ?_
  refine g_get dX3_play_70 (fX3_27 rfl) hA.1 rfl ?_
  refine g_ialdN dX3_play_73 hA.2.2.1 (by omega) (by decide) ?_
  rw [hpl]
  refine g_istore_5 rfl dX3_play_74 ?_
  refine g_aload_4 dX3_play_76 ?_
  refine g_ifnull dX3_play_78 ?_
  refine g_iload_5 dX3_play_81 ?_
  refine g_aload_4 dX3_play_83 ?_
  refine g_get dX3_play_85 (fX3_42 rfl) hS.1 rfl ?_
  refine g_icmp_ltN (tgt := 104) dX3_play_88 (by decide) (by omega) (by omega) (fun h88 => absurd h88 (by omega)) (fun _ => ?_)
  refine g_aload_0 dX3_play_91 ?_
  refine g_dup dX3_play_92 rfl ?_
  refine g_get dX3_play_93 (fX3_27 rfl) hA.1 rfl ?_
  refine g_iconst (v := nI 1) dX3_play_96 rfl ?_
  refine g_isub dX3_play_97 ?_
  refine g_plv dX3_play_98 (fX3_27 rfl) hA (fun M1 hA1 hO1 => ?_)
  refine g_goto (tgt := 161) dX3_play_101 (by decide) ?_
  refine g_iincN_3 (q := 1) rfl dX3_play_161 rfl ?_
  refine g_goto (tgt := 23) dX3_play_164 (by decide) ?_
  exact hk _ hA1 hO1
theorem q_plend1 {l4 l5 : Option Value} {u0 : Nat} (hA : PlAt M pb sc pl gr ti (nI k) (nI ords) (nI br)) (hst : st < 100000) (hn : ords < 400) (hk5 : k < 5) {len : Nat} (hsc : sc k = some u) (hpl : pl k = nI p) (hS : ScriptAt M u len g) (hl : len ≤ 120) (hp9 : p ≤ 120) (hg : CharsOK g) (hp : p < len) (hch : sgn len g p = 41) (hti : ti k = nI t) (ht9 : t < 10) (h1 : 1 < t) (hk : ∀ M1, PlAt M1 pb sc (upd pl k (gr k)) gr (upd ti k (nI (t - 1))) (nI k) (nI ords) (nI br) → Out M M1 pb 5 → WP mX3_play 23 [some (.ref pb), some (.ref a), some (.ref u0), some (.int (nI (st + 1))), some (.ref u), some (.int (nI p))] [] M1 z 0 0 Φ) : WP mX3_play 23 [some (.ref pb), some (.ref a), some (.ref u0), some (.int (nI st)), l4, l5] [] M z 0 0 Φ := by
  refine g_iload_3 dX3_play_23 ?_
  refine g_ldc (v := nI 1000000) dX3_play_24 (zX3_41 rfl) ?_
  refine g_icmp_geN (tgt := 167) dX3_play_26 (by decide) (by omega) (by omega) (fun h26 => absurd h26 (by omega)) (fun _ => ?_)
  refine g_aload_0 dX3_play_29 ?_
  refine g_get dX3_play_30 (fX3_31 rfl) hA.1 rfl ?_
  refine g_sipush (v := nI 400) dX3_play_33 rfl ?_
  refine g_icmp_geN (tgt := 167) dX3_play_36 (by decide) (by omega) (by omega) (fun h36 => absurd h36 (by omega)) (fun _ => ?_)
  refine g_aload_0 dX3_play_39 ?_
  refine g_get dX3_play_40 (fX3_27 rfl) hA.1 rfl ?_
  refine g_if_ltN (tgt := 167) dX3_play_43 (by decide) (by omega) ?_
  refine g_aload_0 dX3_play_46 ?_
  refine g_get dX3_play_47 (fX3_27 rfl) hA.1 rfl ?_
  refine g_iconst (v := nI 5) dX3_play_50 rfl ?_
  refine g_icmp_geN (tgt := 167) dX3_play_51 (by decide) (by omega) (by omega) (fun h51 => absurd h51 (by omega)) (fun _ => ?_)
  refine g_aload_0 dX3_play_54 ?_
  refine g_get dX3_play_55 (fX3_13 rfl) hA.1 rfl ?_
  refine g_aload_0 dX3_play_58 ?_
  refine g_get dX3_play_59 (fX3_27 rfl) hA.1 rfl ?_
  refine g_aaldSN dX3_play_62 hA.2.1 (by omega) (by decide) (by rw [hsc]) ?_
  refine g_astore_4 rfl dX3_play_63 ?_
  refine g_aload_0 dX3_play_65 ?_
  refine g_get dX3_play_66 (fX3_17 rfl) hA.1 rfl ?_
  refine g_aload_0 dX3_play_69 ?_
  refine g_get dX3_play_70 (fX3_27 rfl) hA.1 rfl ?_
  refine g_ialdN dX3_play_73 hA.2.2.1 (by omega) (by decide) ?_
  rw [hpl]
  refine g_istore_5 rfl dX3_play_74 ?_
  refine g_aload_4 dX3_play_76 ?_
  refine g_ifnull dX3_play_78 ?_
  refine g_iload_5 dX3_play_81 ?_
  refine g_aload_4 dX3_play_83 ?_
  refine g_get dX3_play_85 (fX3_42 rfl) hS.1 rfl ?_
  refine g_icmp_ltN (tgt := 104) dX3_play_88 (by decide) (by omega) (by omega) (fun _ => ?_) (fun h88 => absurd h88 (by omega))
  refine g_aload_4 dX3_play_104 ?_
  refine g_iload_5 dX3_play_106 ?_
  refine g_v1_1 dX3_play_108 (vX3_45 rfl) rfl hS.1 (Nat.le_of_ble_eq_true rfl) ⟨rfl, rfl⟩ (Nat.le_of_ble_eq_true rfl) (Nat.le_of_ble_eq_true rfl) (c_signAt hS hg hl (by omega)) ?_
  rw [hch]
  refine g_bipush (v := nI 41) dX3_play_111 rfl ?_
  refine g_icmp_neN (tgt := 125) dX3_play_113 (by decide) (by omega) (by omega) (fun h113 => absurd rfl h113) (fun _ => ?_)
  refine g_aload_0 dX3_play_116 ?_
  refine g_iload_5 dX3_play_117 ?_
  refine g_v1 dX3_play_119 (vX3_49 rfl) rfl hA.1 (Nat.le_of_ble_eq_true rfl) (Nat.le_of_ble_eq_true rfl) (Nat.le_of_ble_eq_true rfl) (q_endGroup1 hA hk5 hti ht9 h1) (fun r M2 z2 hq => ?_) (fun E M2 z2 hq => by obtain ⟨hq, -⟩ := hq; cases hq)
  obtain ⟨hr, hA1, hO1, rfl⟩ := hq
  cases hr
  refine g_goto (tgt := 161) dX3_play_122 (by decide) ?_
  refine g_iincN_3 (q := 1) rfl dX3_play_161 rfl ?_
  refine g_goto (tgt := 23) dX3_play_164 (by decide) ?_
  exact hk _ hA1 hO1
theorem q_plend0 {l4 l5 : Option Value} {u0 : Nat} (hA : PlAt M pb sc pl gr ti (nI k) (nI ords) (nI br)) (hst : st < 100000) (hn : ords < 400) (hk5 : k < 5) {len : Nat} (hsc : sc k = some u) (hpl : pl k = nI p) (hS : ScriptAt M u len g) (hl : len ≤ 120) (hp9 : p ≤ 120) (hg : CharsOK g) (hp : p < len) (hch : sgn len g p = 41) (hti : ti k = nI t) (ht9 : t < 10) (h1 : t = 1) (hk : ∀ M1, PlAt M1 pb sc (upd pl k (nI (p + 1))) gr (upd ti k (nI (t - 1))) (nI k) (nI ords) (nI br) → Out M M1 pb 5 → WP mX3_play 23 [some (.ref pb), some (.ref a), some (.ref u0), some (.int (nI (st + 1))), some (.ref u), some (.int (nI p))] [] M1 z 0 0 Φ) : WP mX3_play 23 [some (.ref pb), some (.ref a), some (.ref u0), some (.int (nI st)), l4, l5] [] M z 0 0 Φ := by
  refine g_iload_3 dX3_play_23 ?_
  refine g_ldc (v := nI 1000000) dX3_play_24 (zX3_41 rfl) ?_
  refine g_icmp_geN (tgt := 167) dX3_play_26 (by decide) (by omega) (by omega) (fun h26 => absurd h26 (by omega)) (fun _ => ?_)
  refine g_aload_0 dX3_play_29 ?_
  refine g_get dX3_play_30 (fX3_31 rfl) hA.1 rfl ?_
  refine g_sipush (v := nI 400) dX3_play_33 rfl ?_
  refine g_icmp_geN (tgt := 167) dX3_play_36 (by decide) (by omega) (by omega) (fun h36 => absurd h36 (by omega)) (fun _ => ?_)
  refine g_aload_0 dX3_play_39 ?_
  refine g_get dX3_play_40 (fX3_27 rfl) hA.1 rfl ?_
  refine g_if_ltN (tgt := 167) dX3_play_43 (by decide) (by omega) ?_
  refine g_aload_0 dX3_play_46 ?_
  refine g_get dX3_play_47 (fX3_27 rfl) hA.1 rfl ?_
  refine g_iconst (v := nI 5) dX3_play_50 rfl ?_
  refine g_icmp_geN (tgt := 167) dX3_play_51 (by decide) (by omega) (by omega) (fun h51 => absurd h51 (by omega)) (fun _ => ?_)
  refine g_aload_0 dX3_play_54 ?_
  refine g_get dX3_play_55 (fX3_13 rfl) hA.1 rfl ?_
  refine g_aload_0 dX3_play_58 ?_
  refine g_get dX3_play_59 (fX3_27 rfl) hA.1 rfl ?_
  refine g_aaldSN dX3_play_62 hA.2.1 (by omega) (by decide) (by rw [hsc]) ?_
  refine g_astore_4 rfl dX3_play_63 ?_
  refine g_aload_0 dX3_play_65 ?_
  refine g_get dX3_play_66 (fX3_17 rfl) hA.1 rfl ?_
  refine g_aload_0 dX3_play_69 ?_
  refine g_get dX3_play_70 (fX3_27 rfl) hA.1 rfl ?_
  refine g_ialdN dX3_play_73 hA.2.2.1 (by omega) (by decide) ?_
  rw [hpl]
  refine g_istore_5 rfl dX3_play_74 ?_
  refine g_aload_4 dX3_play_76 ?_
  refine g_ifnull dX3_play_78 ?_
  refine g_iload_5 dX3_play_81 ?_
  refine g_aload_4 dX3_play_83 ?_
  refine g_get dX3_play_85 (fX3_42 rfl) hS.1 rfl ?_
  refine g_icmp_ltN (tgt := 104) dX3_play_88 (by decide) (by omega) (by omega) (fun _ => ?_) (fun h88 => absurd h88 (by omega))
  refine g_aload_4 dX3_play_104 ?_
  refine g_iload_5 dX3_play_106 ?_
  refine g_v1_1 dX3_play_108 (vX3_45 rfl) rfl hS.1 (Nat.le_of_ble_eq_true rfl) ⟨rfl, rfl⟩ (Nat.le_of_ble_eq_true rfl) (Nat.le_of_ble_eq_true rfl) (c_signAt hS hg hl (by omega)) ?_
  rw [hch]
  refine g_bipush (v := nI 41) dX3_play_111 rfl ?_
  refine g_icmp_neN (tgt := 125) dX3_play_113 (by decide) (by omega) (by omega) (fun h113 => absurd rfl h113) (fun _ => ?_)
  refine g_aload_0 dX3_play_116 ?_
  refine g_iload_5 dX3_play_117 ?_
  refine g_v1 dX3_play_119 (vX3_49 rfl) rfl hA.1 (Nat.le_of_ble_eq_true rfl) (Nat.le_of_ble_eq_true rfl) (Nat.le_of_ble_eq_true rfl) (q_endGroup0 hA hk5 hti ht9 h1) (fun r M2 z2 hq => ?_) (fun E M2 z2 hq => by obtain ⟨hq, -⟩ := hq; cases hq)
  obtain ⟨hr, hA1, hO1, rfl⟩ := hq
  cases hr
  refine g_goto (tgt := 161) dX3_play_122 (by decide) ?_
  refine g_iincN_3 (q := 1) rfl dX3_play_161 rfl ?_
  refine g_goto (tgt := 23) dX3_play_164 (by decide) ?_
  exact hk _ hA1 hO1
theorem q_plord {l4 l5 : Option Value} {u0 : Nat} (hA : PlAt M pb sc pl gr ti (nI k) (nI ords) (nI br)) (hst : st < 100000) (hn : ords < 400) (hk5 : k < 5) {len : Nat} (hsc : sc k = some u) (hpl : pl k = nI p) (hS : ScriptAt M u len g) (hl : len ≤ 120) (hp9 : p ≤ 120) (hg : CharsOK g) (hp : p < len) (hch : sgn len g p = c) (hc41 : ¬ c = 41) (hc256 : c < 256) (hdj : pb + 5 ≤ a ∨ a + 20 ≤ pb) {qq : Row × Nat} {lvs : List Lv} {H4 : Prop} (hq1 : qq.2 ≤ 1) (hdo : ∀ M1, PlAt M1 pb sc pl gr ti (nI k) (nI (ords + 1)) (nI br) → Out M M1 pb 5 → Runs mX3_doOrder [.ref pb, .ref a, .ref u, .int (nI p)] M1 z (DoR M1 pb a tx H4 qq lvs (nI (ords + 1)) (nI br) z)) (hk : ∀ M' sc' pl' gr' ti' k', lvs.length = k' + 1 → LvC H4 a tx sc' pl' gr' ti' lvs → PlAt M' pb sc' pl' gr' ti' (nI k') (nI (ords + 1)) (nI (br + qq.2)) → RugF M' a qq.1 → (∀ b, (b < pb ∨ pb + 5 ≤ b) → (b < a ∨ a + 20 ≤ b) → M' b = M b) → WP mX3_play 23 [some (.ref pb), some (.ref a), some (.ref u0), some (.int (nI (st + 1))), some (.ref u), some (.int (nI p))] [] M' z 0 0 Φ) : WP mX3_play 23 [some (.ref pb), some (.ref a), some (.ref u0), some (.int (nI st)), l4, l5] [] M z 0 0 Φ := by
  refine g_iload_3 dX3_play_23 ?_
  refine g_ldc (v := nI 1000000) dX3_play_24 (zX3_41 rfl) ?_
  refine g_icmp_geN (tgt := 167) dX3_play_26 (by decide) (by omega) (by omega) (fun h26 => absurd h26 (by omega)) (fun _ => ?_)
  refine g_aload_0 dX3_play_29 ?_
  refine g_get dX3_play_30 (fX3_31 rfl) hA.1 rfl ?_
  refine g_sipush (v := nI 400) dX3_play_33 rfl ?_
  refine g_icmp_geN (tgt := 167) dX3_play_36 (by decide) (by omega) (by omega) (fun h36 => absurd h36 (by omega)) (fun _ => ?_)
  refine g_aload_0 dX3_play_39 ?_
  refine g_get dX3_play_40 (fX3_27 rfl) hA.1 rfl ?_
  refine g_if_ltN (tgt := 167) dX3_play_43 (by decide) (by omega) ?_
  refine g_aload_0 dX3_play_46 ?_
  refine g_get dX3_play_47 (fX3_27 rfl) hA.1 rfl ?_
  refine g_iconst (v := nI 5) dX3_play_50 rfl ?_
  refine g_icmp_geN (tgt := 167) dX3_play_51 (by decide) (by omega) (by omega) (fun h51 => absurd h51 (by omega)) (fun _ => ?_)
  refine g_aload_0 dX3_play_54 ?_
  refine g_get dX3_play_55 (fX3_13 rfl) hA.1 rfl ?_
  refine g_aload_0 dX3_play_58 ?_
  refine g_get dX3_play_59 (fX3_27 rfl) hA.1 rfl ?_
  refine g_aaldSN dX3_play_62 hA.2.1 (by omega) (by decide) (by rw [hsc]) ?_
  refine g_astore_4 rfl dX3_play_63 ?_
  refine g_aload_0 dX3_play_65 ?_
  refine g_get dX3_play_66 (fX3_17 rfl) hA.1 rfl ?_
  refine g_aload_0 dX3_play_69 ?_
  refine g_get dX3_play_70 (fX3_27 rfl) hA.1 rfl ?_
  refine g_ialdN dX3_play_73 hA.2.2.1 (by omega) (by decide) ?_
  rw [hpl]
  refine g_istore_5 rfl dX3_play_74 ?_
  refine g_aload_4 dX3_play_76 ?_
  refine g_ifnull dX3_play_78 ?_
  refine g_iload_5 dX3_play_81 ?_
  refine g_aload_4 dX3_play_83 ?_
  refine g_get dX3_play_85 (fX3_42 rfl) hS.1 rfl ?_
  refine g_icmp_ltN (tgt := 104) dX3_play_88 (by decide) (by omega) (by omega) (fun _ => ?_) (fun h88 => absurd h88 (by omega))
  refine g_aload_4 dX3_play_104 ?_
  refine g_iload_5 dX3_play_106 ?_
  refine g_v1_1 dX3_play_108 (vX3_45 rfl) rfl hS.1 (Nat.le_of_ble_eq_true rfl) ⟨rfl, rfl⟩ (Nat.le_of_ble_eq_true rfl) (Nat.le_of_ble_eq_true rfl) (c_signAt hS hg hl (by omega)) ?_
  rw [hch]
  refine g_bipush (v := nI 41) dX3_play_111 rfl ?_
  refine g_icmp_neN (tgt := 125) dX3_play_113 (by decide) (by omega) (by omega) (fun _ => ?_) (fun h113 => absurd h113 hc41)
  refine g_aload_0 dX3_play_125 ?_
  refine g_dup dX3_play_126 rfl ?_
  refine g_get dX3_play_127 (fX3_31 rfl) hA.1 rfl ?_
  refine g_iconst (v := nI 1) dX3_play_130 rfl ?_
  refine g_iaddN dX3_play_131 ?_
  refine g_pod dX3_play_132 (fX3_31 rfl) hA (fun M1 hA1 hO1 => ?_)
  refine g_aload_0 dX3_play_135 ?_
  refine g_dup dX3_play_136 rfl ?_
  refine g_get dX3_play_137 (fX3_34 rfl) hA1.1 rfl ?_
  refine g_aload_0 dX3_play_140 ?_
  refine g_aload_1 dX3_play_141 ?_
  refine g_aload_4 dX3_play_142 ?_
  refine g_iload_5 dX3_play_144 ?_
  refine g_v3 dX3_play_146 (vX3_53 rfl) rfl hA1.1 (Nat.le_of_ble_eq_true rfl) (Nat.le_of_ble_eq_true rfl) (Nat.le_of_ble_eq_true rfl) (hdo M1 hA1 hO1) (fun r M2 z2 hq => ?_) (fun E M2 z2 hq => by obtain ⟨_, _, _, _, _, ⟨hr, -⟩, -⟩ := hq; cases hr)
  obtain ⟨sc2, pl2, gr2, ti2, k2, ⟨hr, hA2, hF2, hO2, hz⟩, hC2, hl2⟩ := hq
  cases hr
  subst hz
  refine g_if_eqB (tgt := 156) dX3_play_149 (by decide)  (fun h149 => ?_) (fun h149 => ?_)
  · refine g_iconst (v := nI 1) dX3_play_156 rfl ?_
    refine g_iaddN dX3_play_157 ?_
    refine g_pbk dX3_play_158 (fX3_34 rfl) hA2 (fun M3 hA3 hO3 => ?_)
    refine g_iincN_3 (q := 1) rfl dX3_play_161 rfl ?_
    refine g_goto (tgt := 23) dX3_play_164 (by decide) ?_
    refine hk M3 _ _ _ _ _ hl2 hC2 (by first | (rw [show qq.2 = 0 from of_decide_eq_true h149]; exact hA3) | (rw [show qq.2 = 1 from by have := of_decide_eq_false h149; omega]; exact hA3)) (hF2.keep (fun b b1 b2 => hO3 b (by omega))) (fun b b1 b2 => ?_)
    exact (hO3 b b1).trans ((hO2 b b1 b2).trans (hO1 b b1))
  · refine g_iconst (v := nI 0) dX3_play_152 rfl ?_
    refine g_goto (tgt := 157) dX3_play_153 (by decide) ?_
    refine g_iaddN dX3_play_157 ?_
    refine g_pbk dX3_play_158 (fX3_34 rfl) hA2 (fun M3 hA3 hO3 => ?_)
    refine g_iincN_3 (q := 1) rfl dX3_play_161 rfl ?_
    refine g_goto (tgt := 23) dX3_play_164 (by decide) ?_
    refine hk M3 _ _ _ _ _ hl2 hC2 (by first | (rw [show qq.2 = 0 from of_decide_eq_true h149]; exact hA3) | (rw [show qq.2 = 1 from by have := of_decide_eq_false h149; omega]; exact hA3)) (hF2.keep (fun b b1 b2 => hO3 b (by omega))) (fun b b1 b2 => ?_)
    exact (hO3 b b1).trans ((hO2 b b1 b2).trans (hO1 b b1))
end P53
