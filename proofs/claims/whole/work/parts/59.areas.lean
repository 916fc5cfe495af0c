section P59
variable {M M0 : Hp} {z b c i n h m : Nat} {f g : Row} {v w x : Int32} {I : Row} {A : Nat → Row} {S : Nat → Bool} {L L0 : Row} {Φ : GR → Hp → Nat → Prop} {l4 l5 l6 : Option Value} {ch : Bool}
def plS (f : Row) (c : Nat) : Nat → Bool := fun k => decide (f k = nI (c + 1))
def iniL (f : Row) (B : Row) (c t : Nat) : Row := fun k => if k < t then (if f k = nI (c + 1) then nI k else -1) else B k
theorem ini_step {B : Row} : upd (iniL f B c i) i (if f i = nI (c + 1) then nI i else -1) = iniL f B c (i + 1) := by
  funext k
  simp only [upd, iniL]
  by_cases h : k = i
  · subst h
    rw [if_pos rfl, if_pos (show k < k + 1 from Nat.lt_succ_self k)]
  · rw [if_neg h]
    by_cases h2 : k < i
    · rw [if_pos h2, if_pos (show k < i + 1 by omega)]
    · rw [if_neg h2, if_neg (show ¬ k < i + 1 by omega)]
theorem ini_ok {B : Row} : LabOK (plS f c) (iniL f B c 144) := by
  intro k hk
  have e : iniL f B c 144 k = if f k = nI (c + 1) then nI k else -1 := if_pos hk
  refine ⟨fun h => ⟨k, Nat.le_refl k, Conn.rf, ?_⟩, fun h => ?_⟩
  · rw [e, if_pos (of_decide_eq_true h)]
  · rw [e, if_neg (of_decide_eq_false h)]
def ArQ (M : Hp) (b : Nat) (I : Row) (A : Nat → Row) (n z : Nat) : GR → Hp → Nat → Prop := fun r M' z' => r = .inl (some (.int (nI n))) ∧ (∃ A', MAt M' b I A' ∧ ∀ k, k ≠ 3 → A' k = A k) ∧ Out M M' b 13 ∧ z' = z
theorem m_ar7 (hk : ∀ M, MAt M b I (stg A 3 (iniL (A 1) (A 3) c 144)) → Out M0 M b 13 → WP mX8_areas 47 [some (.ref b), some (.int (nI c)), some (.int (nI 0)), some (.int (bI true)), some (.int (nI 144)), l5, l6] [] M z 0 0 Φ) : ∀ d i {M : Hp}, i + d = 144 → MAt M b I (stg A 3 (iniL (A 1) (A 3) c i)) → Out M0 M b 13 → WP mX8_areas 7 [some (.ref b), some (.int (nI c)), some (.int (nI 0)), some (.int (bI true)), some (.int (nI i)), l5, l6] [] M z 0 0 Φ := by
  intro d
  induction d with
  | zero =>
    intro i M hi hA hO
    obtain rfl : i = 144 := by omega
    refine g_iload_4 dX8_areas_7 ?_
    refine g_sipush (v := nI 144) dX8_areas_9 rfl ?_
    refine g_icmp_geN (tgt := 47) dX8_areas_12 (by decide) (by omega) (by omega) (fun _ => ?_) (fun h12 => absurd h12 (by omega))
    exact hk M hA hO
  | succ d ih =>
    intro i M hi hA hO
    refine g_iload_4 dX8_areas_7 ?_
    refine g_sipush (v := nI 144) dX8_areas_9 rfl ?_
    refine g_icmp_geN (tgt := 47) dX8_areas_12 (by decide) (by omega) (by omega) (fun h12 => absurd h12 (by omega)) (fun _ => ?_)
    refine g_aload_0 dX8_areas_15 ?_
    refine g_get dX8_areas_16 (fX8_16 rfl) hA.1 rfl ?_
    refine g_iload_4 dX8_areas_19 ?_
    refine g_aload_0 dX8_areas_21 ?_
    refine g_get dX8_areas_22 (fX8_7 rfl) hA.1 rfl ?_
    refine g_iload_4 dX8_areas_25 ?_
    refine g_ialdN dX8_areas_27 hA.2.1 (by omega) (by decide) ?_
    rw [show stg A 3 (iniL (A 1) (A 3) c i) 1 i = A 1 i from rfl]
    refine g_iload_1 dX8_areas_28 ?_
    refine g_iconst (v := nI 1) dX8_areas_29 rfl ?_
    refine g_iaddN dX8_areas_30 ?_
    refine g_icmp_ne (tgt := 39) dX8_areas_31 (by decide)  (fun h31 => ?_) (fun h31 => ?_)
    · refine g_iconst (v := -1) dX8_areas_39 rfl ?_
      refine g_iastN dX8_areas_40 hA.2.2.2.1 (by omega) (by decide) ?_
      have hA1 := hA.a3 (g := upd (stg A 3 (iniL (A 1) (A 3) c i) 3) i (-1))
      rw [stg_stg, stg_eq] at hA1
      rw [stg_eq]
      have e := ini_step (f := A 1) (B := A 3) (c := c) (i := i)
      rw [if_neg h31] at e
      rw [e] at hA1 ⊢
      refine g_iincN_4 (q := 1) rfl dX8_areas_41 rfl ?_
      refine g_goto (tgt := 7) dX8_areas_44 (by decide) ?_
      exact ih (i + 1) (by omega) hA1 (hO.tr (Out.put (by omega) (by omega)))
    · refine g_iload_4 dX8_areas_34 ?_
      refine g_goto (tgt := 40) dX8_areas_36 (by decide) ?_
      refine g_iastN dX8_areas_40 hA.2.2.2.1 (by omega) (by decide) ?_
      have hA1 := hA.a3 (g := upd (stg A 3 (iniL (A 1) (A 3) c i) 3) i (nI i))
      rw [stg_stg, stg_eq] at hA1
      rw [stg_eq]
      have e := ini_step (f := A 1) (B := A 3) (c := c) (i := i)
      rw [if_pos h31] at e
      rw [e] at hA1 ⊢
      refine g_iincN_4 (q := 1) rfl dX8_areas_41 rfl ?_
      refine g_goto (tgt := 7) dX8_areas_44 (by decide) ?_
      exact ih (i + 1) (by omega) hA1 (hO.tr (Out.put (by omega) (by omega)))
theorem m_ar67 (hi : i < 144) (hk : ∀ (L : Row) (ch : Bool) (M : Hp) (l5 l6 : Option Value), PassI S L0 L ch (i + 1) 0 → MAt M b I (stg A 3 L) → Out M0 M b 13 → WP mX8_areas 56 [some (.ref b), some (.int (nI c)), some (.int (nI 0)), some (.int (bI ch)), some (.int (nI (i + 1))), l5, l6] [] M z 0 0 Φ) : ∀ e h (L : Row) (ch : Bool) (M : Hp) {l6 : Option Value}, h + e = 4 → PassI S L0 L ch i h → MAt M b I (stg A 3 L) → Out M0 M b 13 → WP mX8_areas 67 [some (.ref b), some (.int (nI c)), some (.int (nI 0)), some (.int (bI ch)), some (.int (nI i)), some (.int (nI h)), l6] [] M z 0 0 Φ := by
  intro e
  induction e with
  | zero =>
    intro h L ch M l6 he hP hA hO
    refine g_iload_5 dX8_areas_67 ?_
    refine g_iconst (v := nI 4) dX8_areas_69 rfl ?_
    refine g_icmp_geN (tgt := 149) dX8_areas_70 (by decide) (by omega) (by omega) (fun _ => ?_) (fun h70 => absurd h70 (by omega))
    refine g_iincN_4 (q := 1) rfl dX8_areas_149 rfl ?_
    refine g_goto (tgt := 56) dX8_areas_152 (by decide) ?_
    exact hk L ch M _ _ (hP.next (Or.inr (by omega))) hA hO
  | succ e ih =>
    intro h L ch M l6 he hP hA hO
    cases hb : besd i h with
    | none =>
      refine g_iload_5 dX8_areas_67 ?_
      refine g_iconst (v := nI 4) dX8_areas_69 rfl ?_
      refine g_icmp_geN (tgt := 149) dX8_areas_70 (by decide) (by omega) (by omega) (fun h70 => absurd h70 (by omega)) (fun _ => ?_)
      refine g_aload_0 dX8_areas_73 ?_
      refine g_get dX8_areas_74 (fX8_16 rfl) hA.1 rfl ?_
      refine g_iload_4 dX8_areas_77 ?_
      refine g_ialdN dX8_areas_79 hA.2.2.2.1 (by omega) (by decide) ?_
      rw [show stg A 3 L 3 i = L i from by rw [stg_eq]]
      refine g_iconst (v := -1) dX8_areas_80 rfl ?_
      refine g_icmp_eq (tgt := 149) dX8_areas_81 (by decide)  (fun h81 => ?_) (fun h81 => ?_)
      · refine g_iincN_4 (q := 1) rfl dX8_areas_149 rfl ?_
        refine g_goto (tgt := 56) dX8_areas_152 (by decide) ?_
        exact hk L ch M _ _ (hP.next (Or.inl (by
          cases e : S i with
          | false => rfl
          | true =>
            obtain ⟨d, d1, d2, d3⟩ := (hP.1 i hi).1 e
            rw [d3] at h81
            exact absurd h81 (nI_nm1 (by omega))))) hA hO
      · have hSi : S i = true := by
          cases e : S i with
          | true => rfl
          | false => exact absurd ((hP.1 i hi).2 e) h81
        refine g_iload_4 dX8_areas_84 ?_
        refine g_iload_5 dX8_areas_86 ?_
        refine g_s2_1 dX8_areas_88 (sX8_91 rfl) rfl (Nat.le_of_ble_eq_true rfl) ⟨rfl, rfl⟩ (Nat.le_of_ble_eq_true rfl) (Nat.le_of_ble_eq_true rfl) ((by have e := m_next (z := z) (M := M) hi (show h < 4 by omega); rw [hb] at e; exact e)) ?_
        refine g_istore_6 rfl dX8_areas_91 ?_
        refine g_iload_6 dX8_areas_93 ?_
        refine g_iconst (v := -1) dX8_areas_95 rfl ?_
        refine g_icmp_eq (tgt := 143) dX8_areas_96 (by decide)  (fun _ => ?_) (fun h96 => absurd rfl h96)
        refine g_iincN_5 (q := 1) rfl dX8_areas_143 rfl ?_
        refine g_goto (tgt := 67) dX8_areas_146 (by decide) ?_
        exact ih (h + 1) L ch M (by omega) (hP.skip (fun y _ hy _ => by rw [hb] at hy; cases hy)) hA hO
    | some y =>
      have hy9 : y < 144 := besd_lt hi hb
      refine g_iload_5 dX8_areas_67 ?_
      refine g_iconst (v := nI 4) dX8_areas_69 rfl ?_
      refine g_icmp_geN (tgt := 149) dX8_areas_70 (by decide) (by omega) (by omega) (fun h70 => absurd h70 (by omega)) (fun _ => ?_)
      refine g_aload_0 dX8_areas_73 ?_
      refine g_get dX8_areas_74 (fX8_16 rfl) hA.1 rfl ?_
      refine g_iload_4 dX8_areas_77 ?_
      refine g_ialdN dX8_areas_79 hA.2.2.2.1 (by omega) (by decide) ?_
      rw [show stg A 3 L 3 i = L i from by rw [stg_eq]]
      refine g_iconst (v := -1) dX8_areas_80 rfl ?_
      refine g_icmp_eq (tgt := 149) dX8_areas_81 (by decide)  (fun h81 => ?_) (fun h81 => ?_)
      · refine g_iincN_4 (q := 1) rfl dX8_areas_149 rfl ?_
        refine g_goto (tgt := 56) dX8_areas_152 (by decide) ?_
        exact hk L ch M _ _ (hP.next (Or.inl (by
          cases e : S i with
          | false => rfl
          | true =>
            obtain ⟨d, d1, d2, d3⟩ := (hP.1 i hi).1 e
            rw [d3] at h81
            exact absurd h81 (nI_nm1 (by omega))))) hA hO
      · have hSi : S i = true := by
          cases e : S i with
          | true => rfl
          | false => exact absurd ((hP.1 i hi).2 e) h81
        refine g_iload_4 dX8_areas_84 ?_
        refine g_iload_5 dX8_areas_86 ?_
        refine g_s2_1 dX8_areas_88 (sX8_91 rfl) rfl (Nat.le_of_ble_eq_true rfl) ⟨rfl, rfl⟩ (Nat.le_of_ble_eq_true rfl) (Nat.le_of_ble_eq_true rfl) ((by have e := m_next (z := z) (M := M) hi (show h < 4 by omega); rw [hb] at e; exact e)) ?_
        refine g_istore_6 rfl dX8_areas_91 ?_
        refine g_iload_6 dX8_areas_93 ?_
        refine g_iconst (v := -1) dX8_areas_95 rfl ?_
        refine g_icmp_eq (tgt := 143) dX8_areas_96 (by decide)  (fun h96 => absurd h96 (nI_nm1 (by omega))) (fun _ => ?_)
        refine g_aload_0 dX8_areas_99 ?_
        refine g_get dX8_areas_100 (fX8_16 rfl) hA.1 rfl ?_
        refine g_iload_6 dX8_areas_103 ?_
        refine g_ialdN dX8_areas_105 hA.2.2.2.1 (by omega) (by decide) ?_
        rw [show stg A 3 L 3 y = L y from by rw [stg_eq]]
        refine g_iconst (v := -1) dX8_areas_106 rfl ?_
        refine g_icmp_eq (tgt := 143) dX8_areas_107 (by decide)  (fun h107 => ?_) (fun h107 => ?_)
        · refine g_iincN_5 (q := 1) rfl dX8_areas_143 rfl ?_
          refine g_goto (tgt := 67) dX8_areas_146 (by decide) ?_
          first
            | exact ih (h + 1) L ch M (by omega) (hP.skip (fun y' _ hy' hs' => by
                rw [hb] at hy'
                cases hy'
                obtain ⟨d, d1, d2, d3⟩ := (hP.1 y hy9).1 hs'
                rw [d3] at h107
                exact absurd h107 (nI_nm1 (by omega)))) hA hO
            | exact ih (h + 1) L ch M (by omega) (hP.skip (fun y' _ hy' hs' => by
                rw [hb] at hy'
                cases hy'
                exact Int32.not_lt.mpr h124)) hA hO
            | exact ih (h + 1) (upd L i (L y)) true _ (by omega) (hP.take hi (by omega) hSi hb (by
                cases e : S y with
                | true => rfl
                | false => exact absurd ((hP.1 y hy9).2 e) h107) (Int32.not_le.mp h124) (fun e => (hP.2.2 e).1) hP.2.1) hA1 (hO.tr (Out.put (by omega) (by omega)))
        · refine g_aload_0 dX8_areas_110 ?_
          refine g_get dX8_areas_111 (fX8_16 rfl) hA.1 rfl ?_
          refine g_iload_6 dX8_areas_114 ?_
          refine g_ialdN dX8_areas_116 hA.2.2.2.1 (by omega) (by decide) ?_
          rw [show stg A 3 L 3 y = L y from by rw [stg_eq]]
          refine g_aload_0 dX8_areas_117 ?_
          refine g_get dX8_areas_118 (fX8_16 rfl) hA.1 rfl ?_
          refine g_iload_4 dX8_areas_121 ?_
          refine g_ialdN dX8_areas_123 hA.2.2.2.1 (by omega) (by decide) ?_
          rw [show stg A 3 L 3 i = L i from by rw [stg_eq]]
          refine g_icmp_ge (tgt := 143) dX8_areas_124 (by decide)  (fun h124 => ?_) (fun h124 => ?_)
          · refine g_iincN_5 (q := 1) rfl dX8_areas_143 rfl ?_
            refine g_goto (tgt := 67) dX8_areas_146 (by decide) ?_
            first
              | exact ih (h + 1) L ch M (by omega) (hP.skip (fun y' _ hy' hs' => by
                  rw [hb] at hy'
                  cases hy'
                  obtain ⟨d, d1, d2, d3⟩ := (hP.1 y hy9).1 hs'
                  rw [d3] at h107
                  exact absurd h107 (nI_nm1 (by omega)))) hA hO
              | exact ih (h + 1) L ch M (by omega) (hP.skip (fun y' _ hy' hs' => by
                  rw [hb] at hy'
                  cases hy'
                  exact Int32.not_lt.mpr h124)) hA hO
              | exact ih (h + 1) (upd L i (L y)) true _ (by omega) (hP.take hi (by omega) hSi hb (by
                  cases e : S y with
                  | true => rfl
                  | false => exact absurd ((hP.1 y hy9).2 e) h107) (Int32.not_le.mp h124) (fun e => (hP.2.2 e).1) hP.2.1) hA1 (hO.tr (Out.put (by omega) (by omega)))
          · refine g_aload_0 dX8_areas_127 ?_
            refine g_get dX8_areas_128 (fX8_16 rfl) hA.1 rfl ?_
            refine g_iload_4 dX8_areas_131 ?_
            refine g_aload_0 dX8_areas_133 ?_
            refine g_get dX8_areas_134 (fX8_16 rfl) hA.1 rfl ?_
            refine g_iload_6 dX8_areas_137 ?_
            refine g_ialdN dX8_areas_139 hA.2.2.2.1 (by omega) (by decide) ?_
            rw [show stg A 3 L 3 y = L y from by rw [stg_eq]]
            refine g_iastN dX8_areas_140 hA.2.2.2.1 (by omega) (by decide) ?_
            have hA1 := hA.a3 (g := upd (stg A 3 L 3) i (L y))
            rw [stg_stg, stg_eq] at hA1
            rw [stg_eq]
            refine g_iconst (v := nI 1) dX8_areas_141 rfl ?_
            refine g_istore_3 rfl dX8_areas_142 ?_
            refine g_iincN_5 (q := 1) rfl dX8_areas_143 rfl ?_
            refine g_goto (tgt := 67) dX8_areas_146 (by decide) ?_
            first
              | exact ih (h + 1) L ch M (by omega) (hP.skip (fun y' _ hy' hs' => by
                  rw [hb] at hy'
                  cases hy'
                  obtain ⟨d, d1, d2, d3⟩ := (hP.1 y hy9).1 hs'
                  rw [d3] at h107
                  exact absurd h107 (nI_nm1 (by omega)))) hA hO
              | exact ih (h + 1) L ch M (by omega) (hP.skip (fun y' _ hy' hs' => by
                  rw [hb] at hy'
                  cases hy'
                  exact Int32.not_lt.mpr h124)) hA hO
              | exact ih (h + 1) (upd L i (L y)) true _ (by omega) (hP.take hi (by omega) hSi hb (by
                  cases e : S y with
                  | true => rfl
                  | false => exact absurd ((hP.1 y hy9).2 e) h107) (Int32.not_le.mp h124) (fun e => (hP.2.2 e).1) hP.2.1) hA1 (hO.tr (Out.put (by omega) (by omega)))
theorem m_ar56 (hk : ∀ (L : Row) (ch : Bool) (M : Hp) (l5 l6 : Option Value), PassI S L0 L ch 144 0 → MAt M b I (stg A 3 L) → Out M0 M b 13 → WP mX8_areas 47 [some (.ref b), some (.int (nI c)), some (.int (nI 0)), some (.int (bI ch)), some (.int (nI 144)), l5, l6] [] M z 0 0 Φ) : ∀ d i (L : Row) (ch : Bool) (M : Hp) {l5 l6 : Option Value}, i + d = 144 → PassI S L0 L ch i 0 → MAt M b I (stg A 3 L) → Out M0 M b 13 → WP mX8_areas 56 [some (.ref b), some (.int (nI c)), some (.int (nI 0)), some (.int (bI ch)), some (.int (nI i)), l5, l6] [] M z 0 0 Φ := by
  intro d
  induction d with
  | zero =>
    intro i L ch M l5 l6 hi hP hA hO
    obtain rfl : i = 144 := by omega
    refine g_iload_4 dX8_areas_56 ?_
    refine g_sipush (v := nI 144) dX8_areas_58 rfl ?_
    refine g_icmp_geN (tgt := 155) dX8_areas_61 (by decide) (by omega) (by omega) (fun _ => ?_) (fun h61 => absurd h61 (by omega))
    refine g_goto (tgt := 47) dX8_areas_155 (by decide) ?_
    exact hk L ch M _ _ hP hA hO
  | succ d ih =>
    intro i L ch M l5 l6 hi hP hA hO
    refine g_iload_4 dX8_areas_56 ?_
    refine g_sipush (v := nI 144) dX8_areas_58 rfl ?_
    refine g_icmp_geN (tgt := 155) dX8_areas_61 (by decide) (by omega) (by omega) (fun h61 => absurd h61 (by omega)) (fun _ => ?_)
    refine g_iconst (v := nI 0) dX8_areas_64 rfl ?_
    refine g_istore_5 rfl dX8_areas_65 ?_
    exact m_ar67 (by omega) (fun L ch M l5 l6 hP hA hO => ih (i + 1) L ch M (by omega) hP hA hO) 4 0 L ch M rfl hP hA hO
theorem m_ar47 (hk : ∀ (L : Row) (M : Hp) (l4 l5 l6 : Option Value), LabOK S L → LFix S L → MAt M b I (stg A 3 L) → Out M0 M b 13 → WP mX8_areas 158 [some (.ref b), some (.int (nI c)), some (.int (nI 0)), some (.int (bI false)), l4, l5, l6] [] M z 0 0 Φ) : ∀ m (L : Row) (ch : Bool) (M : Hp) {l4 l5 l6 : Option Value}, LabOK S L → (ch = false → LFix S L) → (ch = true → smL L 144 < m) → MAt M b I (stg A 3 L) → Out M0 M b 13 → WP mX8_areas 47 [some (.ref b), some (.int (nI c)), some (.int (nI 0)), some (.int (bI ch)), l4, l5, l6] [] M z 0 0 Φ := by
  intro m
  induction m with
  | zero =>
    intro L ch M l4 l5 l6 hL hfix hm hA hO
    cases ch with
    | true => exact absurd (hm rfl) (by omega)
    | false =>
      refine g_iload_3 dX8_areas_47 ?_
      refine g_if_eqB (tgt := 158) dX8_areas_48 (by decide)  (fun _ => ?_) (fun h48 => noFT h48)
      exact hk L M _ _ _ hL (hfix rfl) hA hO
  | succ m ih =>
    intro L ch M l4 l5 l6 hL hfix hm hA hO
    cases ch with
    | false =>
      refine g_iload_3 dX8_areas_47 ?_
      refine g_if_eqB (tgt := 158) dX8_areas_48 (by decide)  (fun _ => ?_) (fun h48 => noFT h48)
      exact hk L M _ _ _ hL (hfix rfl) hA hO
    | true =>
      refine g_iload_3 dX8_areas_47 ?_
      refine g_if_eqB (tgt := 158) dX8_areas_48 (by decide)  (fun h48 => noTF h48) (fun _ => ?_)
      refine g_iconst (v := nI 0) dX8_areas_51 rfl ?_
      refine g_istore_3 rfl dX8_areas_52 ?_
      refine g_iconst (v := nI 0) dX8_areas_53 rfl ?_
      refine g_istore_4 rfl dX8_areas_54 ?_
      refine m_ar56 (S := S) (L0 := L) (fun L' ch' M' l5 l6 hP hA' hO' => ?_) 144 0 L false M rfl ⟨hL, fun e => noFT e, fun _ => ⟨rfl, fun c h' y hc => by omega⟩⟩ hA hO
      exact ih L' ch' M' hP.1 (fun e c hc h' hh y h1 h2 h3 => (hP.2.2 e).2 c h' y (Or.inl hc) hc hh h1 h2 h3) (fun e => by have := hP.2.1 e; have := hm rfl; omega) hA' hO'
theorem m_ar161 (hA : MAt M b I (stg A 3 L)) (hO : Out M0 M b 13) : ∀ d i, i + d = 144 → WP mX8_areas 161 [some (.ref b), some (.int (nI c)), some (.int (nI (cnt (fun k => decide (L k = nI k)) i))), some (.int (bI false)), some (.int (nI i)), l5, l6] [] M z 0 0 (ArQ M0 b I A (cnt (fun k => decide (L k = nI k)) 144) z) := by
  intro d
  induction d with
  | zero =>
    intro i hi
    obtain rfl : i = 144 := by omega
    refine g_iload_4 dX8_areas_161 ?_
    refine g_sipush (v := nI 144) dX8_areas_163 rfl ?_
    refine g_icmp_geN (tgt := 195) dX8_areas_166 (by decide) (by omega) (by omega) (fun _ => ?_) (fun h166 => absurd h166 (by omega))
    refine g_iload_2 dX8_areas_195 ?_
    exact g_ireturn rfl rfl dX8_areas_196 (Nat.le_of_ble_eq_true rfl) (Nat.le_of_ble_eq_true rfl) ⟨rfl, ⟨_, hA, fun k a => stg_ne a⟩, hO, rfl⟩
  | succ d ih =>
    intro i hi
    refine g_iload_4 dX8_areas_161 ?_
    refine g_sipush (v := nI 144) dX8_areas_163 rfl ?_
    refine g_icmp_geN (tgt := 195) dX8_areas_166 (by decide) (by omega) (by omega) (fun h166 => absurd h166 (by omega)) (fun _ => ?_)
    refine g_iload_2 dX8_areas_169 ?_
    refine g_aload_0 dX8_areas_170 ?_
    refine g_get dX8_areas_171 (fX8_16 rfl) hA.1 rfl ?_
    refine g_iload_4 dX8_areas_174 ?_
    refine g_ialdN dX8_areas_176 hA.2.2.2.1 (by omega) (by decide) ?_
    rw [show stg A 3 L 3 i = L i from by rw [stg_eq]]
    refine g_iload_4 dX8_areas_177 ?_
    refine g_icmp_ne (tgt := 186) dX8_areas_179 (by decide)  (fun h179 => ?_) (fun h179 => ?_)
    · have e := cnt_f (P := fun k => decide (L k = nI k)) (n := i) (decide_eq_false h179)
      refine g_iconst (v := nI 0) dX8_areas_186 rfl ?_
      refine g_iaddN dX8_areas_187 ?_
      rw [← e]
      refine g_istore_2 rfl dX8_areas_188 ?_
      refine g_iincN_4 (q := 1) rfl dX8_areas_189 rfl ?_
      refine g_goto (tgt := 161) dX8_areas_192 (by decide) ?_
      exact ih (i + 1) (by omega)
    · have e := cnt_t (P := fun k => decide (L k = nI k)) (n := i) (decide_eq_true h179)
      refine g_iconst (v := nI 1) dX8_areas_182 rfl ?_
      refine g_goto (tgt := 187) dX8_areas_183 (by decide) ?_
      refine g_iaddN dX8_areas_187 ?_
      rw [← e]
      refine g_istore_2 rfl dX8_areas_188 ?_
      refine g_iincN_4 (q := 1) rfl dX8_areas_189 rfl ?_
      refine g_goto (tgt := 161) dX8_areas_192 (by decide) ?_
      exact ih (i + 1) (by omega)
theorem m_areas (hA : MAt M b I A) : Runs mX8_areas [.ref b, .int (nI c)] M z (ArQ M b I A (nArea (plS (A 1) c)) z) := by
  refine runs_of plX8 rfl (Nat.le_of_ble_eq_true rfl) ?_
  show WP mX8_areas 0 [some (.ref b), some (.int (nI c)), none, none, none, none, none] [] M z 0 0 _
  refine g_iconst (v := nI 0) dX8_areas_0 rfl ?_
  refine g_istore_2 rfl dX8_areas_1 ?_
  refine g_iconst (v := nI 1) dX8_areas_2 rfl ?_
  refine g_istore_3 rfl dX8_areas_3 ?_
  refine g_iconst (v := nI 0) dX8_areas_4 rfl ?_
  refine g_istore_4 rfl dX8_areas_5 ?_
  have hA0 : MAt M b I (stg A 3 (iniL (A 1) (A 3) c 0)) := by
    rw [show iniL (A 1) (A 3) c 0 = A 3 from by funext k; exact if_neg (by omega), stg_self]
    exact hA
  refine m_ar7 (M0 := M) (fun M1 hA1 hO1 => ?_) 144 0 rfl hA0 Out.rf
  refine m_ar47 (S := plS (A 1) c) (fun L M2 l4 l5 l6 hL hF hA2 hO2 => ?_) (smL (iniL (A 1) (A 3) c 144) 144 + 1) _ true M1 ini_ok (fun e => noTF e) (fun _ => Nat.lt_succ_self _) hA1 hO1
  have e := m_ar161 (z := z) (c := c) (l5 := l5) (l6 := l6) hA2 hO2 144 0 rfl
  rw [lab_cnt hF hL] at e
  refine g_iconst (v := nI 0) dX8_areas_158 rfl ?_
  refine g_istore_4 rfl dX8_areas_159 ?_
  exact e
end P59
