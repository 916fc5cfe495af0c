section P46
variable {M M0 : Hp} {z b c d e j i n t p s sp : Nat} {br : Nat} {f g : Row} {x y w v G : Int32} {I I0 : Row} {A A0 : Nat → Row} {T : Nat → Nat → Nat} {Ln : Nat → Nat} {Φ : GR → Hp → Nat → Prop}
theorem MAt.aj (hj : j = 1 ∨ j = 2) (h : MAt M b I A) : MAt (hpu M (b + j) (aI 947 g)) b I (stg A j g) := by
  rcases hj with rfl | rfl
  · exact h.a1
  · exact h.a2
theorem MAt.row (hj : j = 1 ∨ j = 2) (h : MAt M b I A) : RowAt M (b + j) (A j) := by
  rcases hj with rfl | rfl
  · exact h.2.1
  · exact h.2.2.1
theorem MAt.rowE (hj : j = 1 ∨ j = 2) (h : MAt M b I A) (e : A j = f) : RowAt M (b + j) f := e ▸ h.row hj
/-- a character of a text: 4 the text, else a stored motif -/
def chF (A : Nat → Row) (j s i : Nat) : Int32 := if s = 4 then A 12 i else A j (467 + 120 * s + i)
theorem m_sign (hA : MAt M b I A) (hj : j = 1 ∨ j = 2) (hs : s < 5) (hi : i < 120) : Runs mX8_sign [.ref b, .ref (b + j), .int (nI s), .int (nI i)] M z (gD (some (.int (chF A j s i))) M z) := by
  unfold chF
  by_cases h : s = 4
  · rw [if_pos h, h]
    exact m_signT hA hi
  · rw [if_neg h]
    exact m_signM hA (hA.row hj) (by omega) hi
def FrAt (A : Nat → Row) (i s sp fi st ti : Nat) : Prop := A 4 i = nI s ∧ A 5 i = nI sp ∧ A 6 i = nI fi ∧ A 7 i = nI st ∧ A 8 i = nI ti
/-- an order's outcome: the row j, how many are broken, the top's place, the rest of the stack -/
def OrdQ (M : Hp) (b j : Nat) (I : Row) (A : Nat → Row) (f' : Row) (br t sp z : Nat) (X : (Nat → Row) → Nat → Prop) : GR → Hp → Nat → Prop := fun r M' z' => r = .inl none ∧ (∃ I' A' dp, MAt M' b I' A' ∧ I' 9 = nI dp ∧ I' 10 = I 10 + nI br ∧ (∀ k, k ≠ 9 → k ≠ 10 → I' k = I k) ∧ A' j = f' ∧ (∀ k, k ≠ j → (k < 4 ∨ 8 < k) → A' k = A k) ∧ (A' 5 t = nI sp ∧ A' 4 t = A 4 t ∧ A' 6 t = A 6 t ∧ A' 7 t = A 7 t ∧ A' 8 t = A 8 t) ∧ (∀ i, i < t → ∀ k, 4 ≤ k → k ≤ 8 → A' k i = A k i) ∧ X A' dp) ∧ Out M M' b 13 ∧ z' = z
theorem OrdQ.tr (hO : Out M0 M b 13) (hI : ∀ k, k ≠ 9 → k ≠ 10 → I k = I0 k) (h10 : I 10 = I0 10) (hj : A j = A0 j ∨ True) (hA : ∀ k, k ≠ j → (k < 4 ∨ 8 < k) → A k = A0 k) (h4 : A 4 t = A0 4 t ∧ A 6 t = A0 6 t ∧ A 7 t = A0 7 t ∧ A 8 t = A0 8 t) (hlt : ∀ i, i < t → ∀ k, 4 ≤ k → k ≤ 8 → A k i = A0 k i) {X : (Nat → Row) → Nat → Prop} {r : GR} {M' : Hp} {z' : Nat} (h : OrdQ M b j I A f br t sp z X r M' z') : OrdQ M0 b j I0 A0 f br t sp z X r M' z' := by
  obtain ⟨hr, ⟨I', A', dp, h1, h2, h3, h5, h6, h7, ⟨e5, e4, e6, e7, e8⟩, h8, h9⟩, hO2, hz⟩ := h
  exact ⟨hr, ⟨I', A', dp, h1, h2, by rw [h3, h10], fun k a b => (h5 k a b).trans (hI k a b), h6, fun k a b => (h7 k a b).trans (hA k a b), ⟨e5, e4.trans h4.1, e6.trans h4.2.1, e7.trans h4.2.2.1, e8.trans h4.2.2.2⟩, fun i hi k a b => (h8 i hi k a b).trans (hlt i hi k a b), h9⟩, hO.tr hO2, hz⟩
/-- an order that pushes nothing -/
def noP (t : Nat) : (Nat → Row) → Nat → Prop := fun _ dp => dp = t + 1
theorem OrdQ.of {I' : Row} {A' : Nat → Row} {M' : Hp} (hj : j = 1 ∨ j = 2) (hA' : MAt M' b I' A') (h9 : I' 9 = nI (t + 1)) (h10 : I' 10 = I 10 + nI br) (hI' : ∀ k, k ≠ 9 → k ≠ 10 → I' k = I k) (hf : A' j = f) (h5 : A' 5 = upd (A 5) t (nI sp)) (hk : ∀ k, k ≠ j → k ≠ 5 → A' k = A k) (hO : Out M M' b 13) : OrdQ M b j I A f br t sp z (noP t) (.inl none) M' z := by
  refine ⟨rfl, ⟨I', A', t + 1, hA', h9, h10, hI', hf, fun k a b => hk k a (by omega), ⟨by rw [h5, upd_eq], by rw [hk 4 (by omega) (by decide)], by rw [hk 6 (by omega) (by decide)], by rw [hk 7 (by omega) (by decide)], by rw [hk 8 (by omega) (by decide)]⟩, fun i hi k a b => ?_, rfl⟩, hO, rfl⟩
  by_cases e : k = 5
  · subst e
    rw [h5, upd_ne (by omega)]
  · rw [hk k (by omega) e]
theorem m_ord62 (hA : MAt M b I A) (hj : j = 1 ∨ j = 2) (hdp : I 9 = nI (t + 1)) (ht : t < 23) {st : Nat} (h4 : A 4 t = nI s) (h5 : A 5 t = nI p) (h7 : A 7 t = nI st) (hs : s < 5) (hst : st ≤ 120) (hp : p < st) (hx : x = if p + 1 < st then chF A j s (p + 1) - nI 48 else nI 0) (hk : ∀ M1, MAt M1 b I (stg A 5 (upd (A 5) t (nI (p + 1)))) → Out M M1 b 13 → WP mX8_order 74 [some (.ref b), some (.ref (b + j)), some (.int (nI t)), some (.int (nI s)), some (.int (nI p)), some (.int (chF A j s p)), some (.int (if p + 1 < st then chF A j s (p + 1) - nI 48 else nI 0)), none, none] [] M1 z 0 0 Φ) : WP mX8_order 62 [some (.ref b), some (.ref (b + j)), some (.int (nI t)), some (.int (nI s)), some (.int (nI p)), some (.int (chF A j s p)), none, none, none] [.int x] M z 0 0 Φ := by
  subst hx
  refine g_istore_6 rfl dX8_order_62 ?_
  refine g_aload_0 dX8_order_64 ?_
  refine g_get dX8_order_65 (fX8_22 rfl) hA.1 rfl ?_
  refine g_iload_2 dX8_order_68 ?_
  refine g_dup2 dX8_order_69 rfl rfl ?_
  refine g_ialdN dX8_order_70 hA.2.2.2.2.2.1 (by omega) (by decide) ?_
  rw [h5]
  refine g_iconst (v := nI 1) dX8_order_71 rfl ?_
  refine g_iaddN dX8_order_72 ?_
  refine g_iastN dX8_order_73 hA.2.2.2.2.2.1 (by omega) (by decide) ?_
  have hA5 := hA.a5 (g := upd (A 5) t (nI (p + 1)))
  exact hk _ hA5 (Out.put (by omega) (by omega))
theorem m_ord0 (hA : MAt M b I A) (hj : j = 1 ∨ j = 2) (hdp : I 9 = nI (t + 1)) (ht : t < 23) {st : Nat} (h4 : A 4 t = nI s) (h5 : A 5 t = nI p) (h7 : A 7 t = nI st) (hs : s < 5) (hst : st ≤ 120) (hp : p < st) (hk : ∀ M1, MAt M1 b I (stg A 5 (upd (A 5) t (nI (p + 1)))) → Out M M1 b 13 → WP mX8_order 74 [some (.ref b), some (.ref (b + j)), some (.int (nI t)), some (.int (nI s)), some (.int (nI p)), some (.int (chF A j s p)), some (.int (if p + 1 < st then chF A j s (p + 1) - nI 48 else nI 0)), none, none] [] M1 z 0 0 Φ) : WP mX8_order 0 [some (.ref b), some (.ref (b + j)), none, none, none, none, none, none, none] [] M z 0 0 Φ := by
  refine g_aload_0 dX8_order_0 ?_
  refine g_get dX8_order_1 (fX8_102 rfl) hA.1 rfl ?_
  rw [hdp]
  refine g_iconst (v := nI 1) dX8_order_4 rfl ?_
  refine g_isubN dX8_order_5 (by omega) ?_
  rw [show t + 1 - 1 = t from rfl]
  refine g_istore_2 rfl dX8_order_6 ?_
  refine g_aload_0 dX8_order_7 ?_
  refine g_get dX8_order_8 (fX8_19 rfl) hA.1 rfl ?_
  refine g_iload_2 dX8_order_11 ?_
  refine g_ialdN dX8_order_12 hA.2.2.2.2.1 (by omega) (by decide) ?_
  rw [h4]
  refine g_istore_3 rfl dX8_order_13 ?_
  refine g_aload_0 dX8_order_14 ?_
  refine g_get dX8_order_15 (fX8_22 rfl) hA.1 rfl ?_
  refine g_iload_2 dX8_order_18 ?_
  refine g_ialdN dX8_order_19 hA.2.2.2.2.2.1 (by omega) (by decide) ?_
  rw [h5]
  refine g_istore_4 rfl dX8_order_20 ?_
  refine g_aload_0 dX8_order_22 ?_
  refine g_aload_1 dX8_order_23 ?_
  refine g_iload_3 dX8_order_24 ?_
  refine g_iload_4 dX8_order_25 ?_
  refine g_v3_1 dX8_order_27 (vX8_108 rfl) rfl hA.1 (Nat.le_of_ble_eq_true rfl) ⟨rfl, rfl⟩ (Nat.le_of_ble_eq_true rfl) (Nat.le_of_ble_eq_true rfl) (m_sign hA hj hs (by omega)) ?_
  refine g_istore_5 rfl dX8_order_30 ?_
  refine g_iload_4 dX8_order_32 ?_
  refine g_iconst (v := nI 1) dX8_order_34 rfl ?_
  refine g_iaddN dX8_order_35 ?_
  refine g_aload_0 dX8_order_36 ?_
  refine g_get dX8_order_37 (fX8_28 rfl) hA.1 rfl ?_
  refine g_iload_2 dX8_order_40 ?_
  refine g_ialdN dX8_order_41 hA.2.2.2.2.2.2.2.1 (by omega) (by decide) ?_
  rw [h7]
  refine g_icmp_geN (tgt := 61) dX8_order_42 (by decide) (by omega) (by omega) (fun h42 => ?_) (fun h42 => ?_)
  · refine g_iconst (v := nI 0) dX8_order_61 rfl ?_
    exact m_ord62 hA hj hdp ht h4 h5 h7 hs hst hp (by first | rw [if_pos (by omega)] | rw [if_neg (by omega)]) hk
  · refine g_aload_0 dX8_order_45 ?_
    refine g_aload_1 dX8_order_46 ?_
    refine g_iload_3 dX8_order_47 ?_
    refine g_iload_4 dX8_order_48 ?_
    refine g_iconst (v := nI 1) dX8_order_50 rfl ?_
    refine g_iaddN dX8_order_51 ?_
    refine g_v3_1 dX8_order_52 (vX8_108 rfl) rfl hA.1 (Nat.le_of_ble_eq_true rfl) ⟨rfl, rfl⟩ (Nat.le_of_ble_eq_true rfl) (Nat.le_of_ble_eq_true rfl) (m_sign hA hj hs (by omega)) ?_
    refine g_bipush (v := nI 48) dX8_order_55 rfl ?_
    refine g_isub dX8_order_57 ?_
    refine g_goto (tgt := 62) dX8_order_58 (by decide) ?_
    exact m_ord62 hA hj hdp ht h4 h5 h7 hs hst hp (by first | rw [if_pos (by omega)] | rw [if_neg (by omega)]) hk
theorem m_ord_s (hA : MAt M b I A) (hj : j = 1 ∨ j = 2) (hdp : I 9 = nI (t + 1)) (ht : t < 23) (h5 : A 5 t = nI (p + 1)) (hs : s < 5) (hI : Rng (A j)) (hde : 10 * d + e < 1000) (hp2 : p + 2 < 120) (h2 : chF A j s (p + 2) = nI (e + 48)) : WP mX8_order 74 [some (.ref b), some (.ref (b + j)), some (.int (nI t)), some (.int (nI s)), some (.int (nI p)), some (.int (nI 115)), some (.int (nI d)), none, none] [] M z 0 0 (OrdQ M b j I A (f_sew (10 * d + e) (A j)).1 (if (f_sew (10 * d + e) (A j)).2 < 10 * d + e then 1 else 0) t (p + 3) z (noP t)) := by
  have hao := hA.1
  refine g_iload_5 dX8_order_74 ?_
  refine g_bipush (v := nI 115) dX8_order_76 rfl ?_
  refine g_icmp_eqN (tgt := 88) dX8_order_78 (by decide) (by omega) (by omega) (fun _ => ?_) (fun h78 => absurd rfl h78)
  refine g_bipush (v := nI 10) dX8_order_88 rfl ?_
  refine g_iload_6 dX8_order_90 ?_
  refine g_imulN dX8_order_92 ?_
  refine g_aload_0 dX8_order_93 ?_
  refine g_aload_1 dX8_order_94 ?_
  refine g_iload_3 dX8_order_95 ?_
  refine g_iload_4 dX8_order_96 ?_
  refine g_iconst (v := nI 2) dX8_order_98 rfl ?_
  refine g_iaddN dX8_order_99 ?_
  refine g_v3_1 dX8_order_100 (vX8_108 rfl) rfl hao (Nat.le_of_ble_eq_true rfl) ⟨rfl, rfl⟩ (Nat.le_of_ble_eq_true rfl) (Nat.le_of_ble_eq_true rfl) (m_sign hA hj hs hp2) ?_
  rw [h2]
  refine g_iaddN dX8_order_103 ?_
  refine g_bipush (v := nI 48) dX8_order_104 rfl ?_
  refine g_isubN dX8_order_106 (by omega) ?_
  rw [show 10 * d + (e + 48) - 48 = 10 * d + e from by omega]
  refine g_istore_7 rfl dX8_order_107 ?_
  refine g_aload_0 dX8_order_109 ?_
  refine g_get dX8_order_110 (fX8_22 rfl) hao rfl ?_
  refine g_iload_2 dX8_order_113 ?_
  refine g_dup2 dX8_order_114 rfl rfl ?_
  refine g_ialdN dX8_order_115 hA.2.2.2.2.2.1 (by omega) (by decide) ?_
  rw [h5]
  refine g_iconst (v := nI 2) dX8_order_116 rfl ?_
  refine g_iaddN dX8_order_117 ?_
  refine g_iastN dX8_order_118 hA.2.2.2.2.2.1 (by omega) (by decide) ?_
  have hA5 := hA.a5 (g := upd (A 5) t (nI (p + 1 + 2)))
  refine g_aload_0 dX8_order_119 ?_
  refine g_iload_5 dX8_order_120 ?_
  refine g_bipush (v := nI 115) dX8_order_122 rfl ?_
  refine g_icmp_neN (tgt := 136) dX8_order_124 (by decide) (by omega) (by omega) (fun h124 => absurd h124 (by decide)) (fun _ => ?_)
  refine g_aload_1 dX8_order_127 ?_
  refine g_iload_7 dX8_order_128 ?_
  refine g_s2_1 dX8_order_130 (sX8_111 rfl) rfl (Nat.le_of_ble_eq_true rfl) ⟨rfl, rfl⟩ (Nat.le_of_ble_eq_true rfl) (Nat.le_of_ble_eq_true rfl) (m_goSew (hA5.rowE hj (stg_ne (by omega))) hI (by omega)) ?_
  have hA6 := hA5.aj hj (g := (f_sew (10 * d + e) (A j)).1)
  have hle : (f_sew (10 * d + e) (A j)).2 ≤ 10 * d + e := sew_cnt _
  refine g_goto (tgt := 142) dX8_order_133 (by decide) ?_
  refine g_iload_7 dX8_order_142 ?_
  refine g_icmp_geN (tgt := 151) dX8_order_144 (by decide) (by omega) (by omega) (fun h144 => ?_) (fun h144 => ?_)
  · refine g_iconst (v := nI 0) dX8_order_151 rfl ?_
    refine g_v1 dX8_order_152 (vX8_117 rfl) rfl hA6.1 (Nat.le_of_ble_eq_true rfl) (Nat.le_of_ble_eq_true rfl) (Nat.le_of_ble_eq_true rfl) (m_fails (bq := false) hA6) (fun r M2 z2 hq => ?_) (fun E M2 z2 hq => by obtain ⟨hq, -⟩ := hq; cases hq)
    obtain ⟨hr, hA7, hO7, rfl⟩ := hq
    cases hr
    refine g_goto (tgt := 481) dX8_order_155 (by decide) ?_
    exact g_return rfl dX8_order_481 (Nat.le_of_ble_eq_true rfl) (Nat.le_of_ble_eq_true rfl) (by rw [show ((if (f_sew (10 * d + e) (A j)).2 < 10 * d + e then 1 else 0 : Nat)) = 0 from by first | exact if_pos (by omega) | exact if_neg (by omega)]; exact OrdQ.of hj hA7 hdp rfl (fun k _ b => upd_ne b) stg_eq ((stg_ne (by omega)).trans stg_eq) (fun k a b => (stg_ne a).trans (stg_ne b)) (((Out.put (by omega) (by omega)).tr (Out.put (by omega) (by omega))).tr hO7))
  · refine g_iconst (v := nI 1) dX8_order_147 rfl ?_
    refine g_goto (tgt := 152) dX8_order_148 (by decide) ?_
    refine g_v1 dX8_order_152 (vX8_117 rfl) rfl hA6.1 (Nat.le_of_ble_eq_true rfl) (Nat.le_of_ble_eq_true rfl) (Nat.le_of_ble_eq_true rfl) (m_fails (bq := true) hA6) (fun r M2 z2 hq => ?_) (fun E M2 z2 hq => by obtain ⟨hq, -⟩ := hq; cases hq)
    obtain ⟨hr, hA7, hO7, rfl⟩ := hq
    cases hr
    refine g_goto (tgt := 481) dX8_order_155 (by decide) ?_
    exact g_return rfl dX8_order_481 (Nat.le_of_ble_eq_true rfl) (Nat.le_of_ble_eq_true rfl) (by rw [show ((if (f_sew (10 * d + e) (A j)).2 < 10 * d + e then 1 else 0 : Nat)) = 1 from by first | exact if_pos (by omega) | exact if_neg (by omega)]; exact OrdQ.of hj hA7 hdp rfl (fun k _ b => upd_ne b) stg_eq ((stg_ne (by omega)).trans stg_eq) (fun k a b => (stg_ne a).trans (stg_ne b)) (((Out.put (by omega) (by omega)).tr (Out.put (by omega) (by omega))).tr hO7))
theorem m_ord_j (hA : MAt M b I A) (hj : j = 1 ∨ j = 2) (hdp : I 9 = nI (t + 1)) (ht : t < 23) (h5 : A 5 t = nI (p + 1)) (hs : s < 5) (hI : Rng (A j)) (hde : 10 * d + e < 1000) (hp2 : p + 2 < 120) (h2 : chF A j s (p + 2) = nI (e + 48)) : WP mX8_order 74 [some (.ref b), some (.ref (b + j)), some (.int (nI t)), some (.int (nI s)), some (.int (nI p)), some (.int (nI 106)), some (.int (nI d)), none, none] [] M z 0 0 (OrdQ M b j I A (f_jump (10 * d + e) (A j)).1 (if (f_jump (10 * d + e) (A j)).2 < 10 * d + e then 1 else 0) t (p + 3) z (noP t)) := by
  have hao := hA.1
  refine g_iload_5 dX8_order_74 ?_
  refine g_bipush (v := nI 115) dX8_order_76 rfl ?_
  refine g_icmp_eqN (tgt := 88) dX8_order_78 (by decide) (by omega) (by omega) (fun h78 => absurd h78 (by decide)) (fun _ => ?_)
  refine g_iload_5 dX8_order_81 ?_
  refine g_bipush (v := nI 106) dX8_order_83 rfl ?_
  refine g_icmp_neN (tgt := 158) dX8_order_85 (by decide) (by omega) (by omega) (fun h85 => absurd h85 (by decide)) (fun _ => ?_)
  refine g_bipush (v := nI 10) dX8_order_88 rfl ?_
  refine g_iload_6 dX8_order_90 ?_
  refine g_imulN dX8_order_92 ?_
  refine g_aload_0 dX8_order_93 ?_
  refine g_aload_1 dX8_order_94 ?_
  refine g_iload_3 dX8_order_95 ?_
  refine g_iload_4 dX8_order_96 ?_
  refine g_iconst (v := nI 2) dX8_order_98 rfl ?_
  refine g_iaddN dX8_order_99 ?_
  refine g_v3_1 dX8_order_100 (vX8_108 rfl) rfl hao (Nat.le_of_ble_eq_true rfl) ⟨rfl, rfl⟩ (Nat.le_of_ble_eq_true rfl) (Nat.le_of_ble_eq_true rfl) (m_sign hA hj hs hp2) ?_
  rw [h2]
  refine g_iaddN dX8_order_103 ?_
  refine g_bipush (v := nI 48) dX8_order_104 rfl ?_
  refine g_isubN dX8_order_106 (by omega) ?_
  rw [show 10 * d + (e + 48) - 48 = 10 * d + e from by omega]
  refine g_istore_7 rfl dX8_order_107 ?_
  refine g_aload_0 dX8_order_109 ?_
  refine g_get dX8_order_110 (fX8_22 rfl) hao rfl ?_
  refine g_iload_2 dX8_order_113 ?_
  refine g_dup2 dX8_order_114 rfl rfl ?_
  refine g_ialdN dX8_order_115 hA.2.2.2.2.2.1 (by omega) (by decide) ?_
  rw [h5]
  refine g_iconst (v := nI 2) dX8_order_116 rfl ?_
  refine g_iaddN dX8_order_117 ?_
  refine g_iastN dX8_order_118 hA.2.2.2.2.2.1 (by omega) (by decide) ?_
  have hA5 := hA.a5 (g := upd (A 5) t (nI (p + 1 + 2)))
  refine g_aload_0 dX8_order_119 ?_
  refine g_iload_5 dX8_order_120 ?_
  refine g_bipush (v := nI 115) dX8_order_122 rfl ?_
  refine g_icmp_neN (tgt := 136) dX8_order_124 (by decide) (by omega) (by omega) (fun _ => ?_) (fun h124 => absurd h124 (by decide))
  refine g_aload_1 dX8_order_136 ?_
  refine g_iload_7 dX8_order_137 ?_
  refine g_s2_1 dX8_order_139 (sX8_114 rfl) rfl (Nat.le_of_ble_eq_true rfl) ⟨rfl, rfl⟩ (Nat.le_of_ble_eq_true rfl) (Nat.le_of_ble_eq_true rfl) (m_goJump (hA5.rowE hj (stg_ne (by omega))) hI (by omega)) ?_
  have hA6 := hA5.aj hj (g := (f_jump (10 * d + e) (A j)).1)
  have hle : (f_jump (10 * d + e) (A j)).2 ≤ 10 * d + e := jump_cnt _
  refine g_iload_7 dX8_order_142 ?_
  refine g_icmp_geN (tgt := 151) dX8_order_144 (by decide) (by omega) (by omega) (fun h144 => ?_) (fun h144 => ?_)
  · refine g_iconst (v := nI 0) dX8_order_151 rfl ?_
    refine g_v1 dX8_order_152 (vX8_117 rfl) rfl hA6.1 (Nat.le_of_ble_eq_true rfl) (Nat.le_of_ble_eq_true rfl) (Nat.le_of_ble_eq_true rfl) (m_fails (bq := false) hA6) (fun r M2 z2 hq => ?_) (fun E M2 z2 hq => by obtain ⟨hq, -⟩ := hq; cases hq)
    obtain ⟨hr, hA7, hO7, rfl⟩ := hq
    cases hr
    refine g_goto (tgt := 481) dX8_order_155 (by decide) ?_
    exact g_return rfl dX8_order_481 (Nat.le_of_ble_eq_true rfl) (Nat.le_of_ble_eq_true rfl) (by rw [show ((if (f_jump (10 * d + e) (A j)).2 < 10 * d + e then 1 else 0 : Nat)) = 0 from by first | exact if_pos (by omega) | exact if_neg (by omega)]; exact OrdQ.of hj hA7 hdp rfl (fun k _ b => upd_ne b) stg_eq ((stg_ne (by omega)).trans stg_eq) (fun k a b => (stg_ne a).trans (stg_ne b)) (((Out.put (by omega) (by omega)).tr (Out.put (by omega) (by omega))).tr hO7))
  · refine g_iconst (v := nI 1) dX8_order_147 rfl ?_
    refine g_goto (tgt := 152) dX8_order_148 (by decide) ?_
    refine g_v1 dX8_order_152 (vX8_117 rfl) rfl hA6.1 (Nat.le_of_ble_eq_true rfl) (Nat.le_of_ble_eq_true rfl) (Nat.le_of_ble_eq_true rfl) (m_fails (bq := true) hA6) (fun r M2 z2 hq => ?_) (fun E M2 z2 hq => by obtain ⟨hq, -⟩ := hq; cases hq)
    obtain ⟨hr, hA7, hO7, rfl⟩ := hq
    cases hr
    refine g_goto (tgt := 481) dX8_order_155 (by decide) ?_
    exact g_return rfl dX8_order_481 (Nat.le_of_ble_eq_true rfl) (Nat.le_of_ble_eq_true rfl) (by rw [show ((if (f_jump (10 * d + e) (A j)).2 < 10 * d + e then 1 else 0 : Nat)) = 1 from by first | exact if_pos (by omega) | exact if_neg (by omega)]; exact OrdQ.of hj hA7 hdp rfl (fun k _ b => upd_ne b) stg_eq ((stg_ne (by omega)).trans stg_eq) (fun k a b => (stg_ne a).trans (stg_ne b)) (((Out.put (by omega) (by omega)).tr (Out.put (by omega) (by omega))).tr hO7))
end P46
