section P56
variable {M M0 : Hp} {z b c i n l dx dy : Nat} {f g : Row} {v w x : Int32} {I : Row} {A : Nat → Row} {P : Nat → Bool} {far : Nat → Nat} {Φ : GR → Hp → Nat → Prop} {l7 l8 l9 l10 : Option Value} {u7 u8 : Int32}
section RT
variable {m : GM} {pc z k n : Nat} {T : List (Option Value)} {rest : List Value} {M : Hp} {Φ : GR → Hp → Nat → Prop} {x : Int32}
theorem g_iload_10 {p0 p1 p2 p3 p4 p5 p6 p7 p8 p9 : Option Value} (d : dc m pc (.iload 10) 2) (h : WP m (pc + 2) (p0 :: p1 :: p2 :: p3 :: p4 :: p5 :: p6 :: p7 :: p8 :: p9 :: some (.int x) :: T) (.int x :: rest) M z k n Φ) : WP m pc (p0 :: p1 :: p2 :: p3 :: p4 :: p5 :: p6 :: p7 :: p8 :: p9 :: some (.int x) :: T) rest M z k n Φ := g_iload d rfl h
theorem g_istore_10 {p0 p1 p2 p3 p4 p5 p6 p7 p8 p9 q : Option Value} (hp : gw1 p9 = true) (d : dc m pc (.istore 10) 2) (h : WP m (pc + 2) (p0 :: p1 :: p2 :: p3 :: p4 :: p5 :: p6 :: p7 :: p8 :: p9 :: some (.int x) :: T) rest M z k n Φ) : WP m pc (p0 :: p1 :: p2 :: p3 :: p4 :: p5 :: p6 :: p7 :: p8 :: p9 :: q :: T) (.int x :: rest) M z k n Φ := g_istore d (by show 10 < List.length _; simp) (fun a h => by have h2 : some p9 = some a := h.2; cases h2; exact hp) rfl h
end RT
def NearM (P : Nat → Bool) (far : Nat → Nat) (i : Nat) (v : Int32) (l : Nat) : Prop := (v = -1 ∧ l = 0 ∧ ∀ k, k < i → P k = false) ∨ ∃ b, b < i ∧ v = nI b ∧ l = far b ∧ P b = true ∧ ∀ k, k < i → P k = true → far b < far k ∨ (far b = far k ∧ b ≤ k)
theorem NearM.keep (h : NearM P far i v l) (hi : P i = false ∨ (v ≠ -1 ∧ l ≤ far i)) : NearM P far (i + 1) v l := by
  rcases h with ⟨g1, g2, g3⟩ | ⟨b, g1, g2, g3, g4, g5⟩
  · refine Or.inl ⟨g1, g2, fun k hk => ?_⟩
    by_cases e : k = i
    · subst e
      rcases hi with h | h
      · exact h
      · exact absurd g1 h.1
    · exact g3 k (by omega)
  · refine Or.inr ⟨b, by omega, g2, g3, g4, fun k hk hp => ?_⟩
    by_cases e : k = i
    · subst e
      rcases hi with h | h
      · rw [h] at hp; cases hp
      · have := h.2; omega
    · exact g5 k (by omega) hp
theorem NearM.take (h : NearM P far i v l) (hi9 : i ≤ 144) (hp : P i = true) (hi : v = -1 ∨ far i < l) : NearM P far (i + 1) (nI i) (far i) := by
  refine Or.inr ⟨i, by omega, rfl, rfl, hp, fun k hk hp => ?_⟩
  by_cases e : k = i
  · subst e; omega
  · rcases h with ⟨g1, g2, g3⟩ | ⟨b, g1, g2, g3, g4, g5⟩
    · rw [g3 k (by omega)] at hp; cases hp
    · have := g5 k (by omega) hp
      rcases hi with h | h
      · rw [g2] at h; exact absurd h (nI_nm1 (by omega))
      · omega
theorem NearM.fin (h : NearM P far 144 v l) : IsNear P far v := by
  rcases h with ⟨g1, g2, g3⟩ | ⟨b, g1, g2, g3, g4, g5⟩
  · exact Or.inl ⟨g1, g3⟩
  · exact Or.inr ⟨b, g1, g2, g4, g5⟩
theorem m_near87 (hA : MAt M b I A) (hi : i < 144) (hn : n < 144) (hN : NearM (fun k => decide (A 1 k = nI (c + 1)) && missF (A 1) k) (farF n) i v l) (hl : l < 1000) (hfar : farF n i = dx + dy) (hd : dx + dy < 1000) (hk : ∀ v l l7 l8 l9 l10, NearM (fun k => decide (A 1 k = nI (c + 1)) && missF (A 1) k) (farF n) (i + 1) v l → WP mX8_nearest 33 [some (.ref b), some (.int (nI c)), some (.int v), some (.int (nI l)), some (.int (nI (n % 12))), some (.int (nI (n / 12))), some (.int (nI (i + 1))), l7, l8, l9, l10] [] M z 0 0 Φ) : WP mX8_nearest 87 [some (.ref b), some (.int (nI c)), some (.int v), some (.int (nI l)), some (.int (nI (n % 12))), some (.int (nI (n / 12))), some (.int (nI i)), some (.int u7), some (.int u8), l9, l10] [.int (nI dy), .int (nI dx)] M z 0 0 Φ := by
  have hao := hA.1
  refine g_iaddN dX8_nearest_87 ?_
  refine g_istore_9 rfl dX8_nearest_88 ?_
  refine g_aload_0 dX8_nearest_90 ?_
  refine g_get dX8_nearest_91 (fX8_7 rfl) hA.1 rfl ?_
  refine g_iload_6 dX8_nearest_94 ?_
  refine g_ialdN dX8_nearest_96 hA.2.1 (by omega) (by decide) ?_
  refine g_iload_1 dX8_nearest_97 ?_
  refine g_iconst (v := nI 1) dX8_nearest_98 rfl ?_
  refine g_iaddN dX8_nearest_99 ?_
  refine g_icmp_ne (tgt := 119) dX8_nearest_100 (by decide)  (fun h100 => ?_) (fun h100 => ?_)
  · refine g_iconst (v := nI 0) dX8_nearest_119 rfl ?_
    refine g_istore_10 rfl dX8_nearest_120 ?_
    refine g_iload_10 dX8_nearest_122 ?_
    refine g_if_eqN (tgt := 144) dX8_nearest_124 (by decide) (by omega) (fun _ => ?_) (fun h124 => absurd rfl h124)
    refine g_iincN_6 (q := 1) rfl dX8_nearest_144 rfl ?_
    refine g_goto (tgt := 33) dX8_nearest_147 (by decide) ?_
    exact hk _ _ _ _ _ _ (hN.keep (Or.inl (by first | (show (decide (A 1 i = nI (c + 1)) && missF (A 1) i) = false; rw [decide_eq_false h100]; rfl) | (show (decide (A 1 i = nI (c + 1)) && missF (A 1) i) = false; rw [h112]; simp))))
  · refine g_aload_0 dX8_nearest_103 ?_
    refine g_get dX8_nearest_104 (fX8_7 rfl) hA.1 rfl ?_
    refine g_iload_6 dX8_nearest_107 ?_
    refine g_s2_1 dX8_nearest_109 (sX8_195 rfl) rfl (Nat.le_of_ble_eq_true rfl) ⟨rfl, rfl⟩ (Nat.le_of_ble_eq_true rfl) (Nat.le_of_ble_eq_true rfl) (m_isMissing hA.2.1 hi) ?_
    refine g_if_eqB (tgt := 119) dX8_nearest_112 (by decide)  (fun h112 => ?_) (fun h112 => ?_)
    · refine g_iconst (v := nI 0) dX8_nearest_119 rfl ?_
      refine g_istore_10 rfl dX8_nearest_120 ?_
      refine g_iload_10 dX8_nearest_122 ?_
      refine g_if_eqN (tgt := 144) dX8_nearest_124 (by decide) (by omega) (fun _ => ?_) (fun h124 => absurd rfl h124)
      refine g_iincN_6 (q := 1) rfl dX8_nearest_144 rfl ?_
      refine g_goto (tgt := 33) dX8_nearest_147 (by decide) ?_
      exact hk _ _ _ _ _ _ (hN.keep (Or.inl (by first | (show (decide (A 1 i = nI (c + 1)) && missF (A 1) i) = false; rw [decide_eq_false h100]; rfl) | (show (decide (A 1 i = nI (c + 1)) && missF (A 1) i) = false; rw [h112]; simp))))
    · have hP : (decide (A 1 i = nI (c + 1)) && missF (A 1) i) = true := by rw [decide_eq_true h100, h112]; rfl
      refine g_iconst (v := nI 1) dX8_nearest_115 rfl ?_
      refine g_goto (tgt := 120) dX8_nearest_116 (by decide) ?_
      refine g_istore_10 rfl dX8_nearest_120 ?_
      refine g_iload_10 dX8_nearest_122 ?_
      refine g_if_eqN (tgt := 144) dX8_nearest_124 (by decide) (by omega) (fun h124 => absurd h124 (by decide)) (fun _ => ?_)
      refine g_iload_2 dX8_nearest_127 ?_
      refine g_iconst (v := -1) dX8_nearest_128 rfl ?_
      refine g_icmp_eq (tgt := 138) dX8_nearest_129 (by decide)  (fun h129 => ?_) (fun h129 => ?_)
      · refine g_iload_6 dX8_nearest_138 ?_
        refine g_istore_2 rfl dX8_nearest_140 ?_
        refine g_iload_9 dX8_nearest_141 ?_
        refine g_istore_3 rfl dX8_nearest_143 ?_
        refine g_iincN_6 (q := 1) rfl dX8_nearest_144 rfl ?_
        refine g_goto (tgt := 33) dX8_nearest_147 (by decide) ?_
        exact hk _ _ _ _ _ _ (by rw [← hfar]; exact hN.take (by omega) hP (Or.inl h129))
      · refine g_iload_9 dX8_nearest_132 ?_
        refine g_iload_3 dX8_nearest_134 ?_
        refine g_icmp_geN (tgt := 144) dX8_nearest_135 (by decide) (by omega) (by omega) (fun h135 => ?_) (fun h135 => ?_)
        · refine g_iincN_6 (q := 1) rfl dX8_nearest_144 rfl ?_
          refine g_goto (tgt := 33) dX8_nearest_147 (by decide) ?_
          exact hk _ _ _ _ _ _ (hN.keep (Or.inr ⟨h129, by show l ≤ farF n i; rw [hfar]; exact h135⟩))
        · refine g_iload_6 dX8_nearest_138 ?_
          refine g_istore_2 rfl dX8_nearest_140 ?_
          refine g_iload_9 dX8_nearest_141 ?_
          refine g_istore_3 rfl dX8_nearest_143 ?_
          refine g_iincN_6 (q := 1) rfl dX8_nearest_144 rfl ?_
          refine g_goto (tgt := 33) dX8_nearest_147 (by decide) ?_
          exact hk _ _ _ _ _ _ (by rw [← hfar]; exact hN.take (by omega) hP (Or.inr (by rw [hfar]; exact h135)))
theorem m_near74 (hA : MAt M b I A) (hi : i < 144) (hn : n < 144) (hN : NearM (fun k => decide (A 1 k = nI (c + 1)) && missF (A 1) k) (farF n) i v l) (hl : l < 1000) (hfar : farF n i = dx + dst (i / 12) (n / 12)) (hd : dx < 100) (hk : ∀ v l l7 l8 l9 l10, NearM (fun k => decide (A 1 k = nI (c + 1)) && missF (A 1) k) (farF n) (i + 1) v l → WP mX8_nearest 33 [some (.ref b), some (.int (nI c)), some (.int v), some (.int (nI l)), some (.int (nI (n % 12))), some (.int (nI (n / 12))), some (.int (nI (i + 1))), l7, l8, l9, l10] [] M z 0 0 Φ) : WP mX8_nearest 74 [some (.ref b), some (.int (nI c)), some (.int v), some (.int (nI l)), some (.int (nI (n % 12))), some (.int (nI (n / 12))), some (.int (nI i)), some (.int u7), some (.int (nI (i / 12) - nI (n / 12))), l9, l10] [.int (nI dx)] M z 0 0 Φ := by
  refine g_iload_8 dX8_nearest_74 ?_
  refine g_if_ge (tgt := 85) dX8_nearest_76 (by decide)  (fun h76 => ?_) (fun h76 => ?_)
  · refine g_iload_8 dX8_nearest_85 ?_
    have e := absd (a := i / 12) (b := n / 12) (by omega) (by omega)
    rw [if_pos h76] at e
    rw [e]
    exact m_near87 hA hi hn hN hl hfar (by unfold dst; omega) hk
  · refine g_iload_8 dX8_nearest_79 ?_
    refine g_ineg dX8_nearest_81 ?_
    have e := absd (a := i / 12) (b := n / 12) (by omega) (by omega)
    rw [if_neg h76] at e
    rw [e]
    refine g_goto (tgt := 87) dX8_nearest_82 (by decide) ?_
    exact m_near87 hA hi hn hN hl hfar (by unfold dst; omega) hk
theorem m_near33 (hA : MAt M b I A) (hi : i < 144) (hn : n < 144) (hN : NearM (fun k => decide (A 1 k = nI (c + 1)) && missF (A 1) k) (farF n) i v l) (hl : l < 1000) (hk : ∀ v l l7 l8 l9 l10, NearM (fun k => decide (A 1 k = nI (c + 1)) && missF (A 1) k) (farF n) (i + 1) v l → WP mX8_nearest 33 [some (.ref b), some (.int (nI c)), some (.int v), some (.int (nI l)), some (.int (nI (n % 12))), some (.int (nI (n / 12))), some (.int (nI (i + 1))), l7, l8, l9, l10] [] M z 0 0 Φ) : WP mX8_nearest 33 [some (.ref b), some (.int (nI c)), some (.int v), some (.int (nI l)), some (.int (nI (n % 12))), some (.int (nI (n / 12))), some (.int (nI i)), l7, l8, l9, l10] [] M z 0 0 Φ := by
  refine g_iload_6 dX8_nearest_33 ?_
  refine g_sipush (v := nI 144) dX8_nearest_35 rfl ?_
  refine g_icmp_geN (tgt := 150) dX8_nearest_38 (by decide) (by omega) (by omega) (fun h38 => absurd h38 (by omega)) (fun _ => ?_)
  refine g_iload_6 dX8_nearest_41 ?_
  refine g_bipush (v := nI 12) dX8_nearest_43 rfl ?_
  refine g_iremN dX8_nearest_45 (by omega) (by omega) (by omega) ?_
  refine g_iload_4 dX8_nearest_46 ?_
  refine g_isub dX8_nearest_48 ?_
  refine g_istore_7 rfl dX8_nearest_49 ?_
  refine g_iload_6 dX8_nearest_51 ?_
  refine g_bipush (v := nI 12) dX8_nearest_53 rfl ?_
  refine g_idivN dX8_nearest_55 (by omega) (by omega) (by omega) ?_
  refine g_iload_5 dX8_nearest_56 ?_
  refine g_isub dX8_nearest_58 ?_
  refine g_istore_8 rfl dX8_nearest_59 ?_
  refine g_iload_7 dX8_nearest_61 ?_
  refine g_if_ge (tgt := 72) dX8_nearest_63 (by decide)  (fun h63 => ?_) (fun h63 => ?_)
  · refine g_iload_7 dX8_nearest_72 ?_
    have e := absd (a := i % 12) (b := n % 12) (by omega) (by omega)
    rw [if_pos h63] at e
    rw [e]
    exact m_near74 hA hi hn hN hl rfl (by unfold dst; omega) hk
  · refine g_iload_7 dX8_nearest_66 ?_
    refine g_ineg dX8_nearest_68 ?_
    have e := absd (a := i % 12) (b := n % 12) (by omega) (by omega)
    rw [if_neg h63] at e
    rw [e]
    refine g_goto (tgt := 74) dX8_nearest_69 (by decide) ?_
    exact m_near74 hA hi hn hN hl rfl (by unfold dst; omega) hk
theorem NearM.lt (h : NearM P far i v l) (hf : ∀ k, k < i → far k ≤ 22) : l < 1000 := by
  rcases h with ⟨g1, g2, g3⟩ | ⟨b, g1, g2, g3, g4, g5⟩
  · omega
  · have := hf b g1; omega
theorem m_near_l (hA : MAt M b I A) (hn : n < 144) : ∀ d i {v : Int32} {l : Nat} {l7 l8 l9 l10 : Option Value}, i + d = 144 → NearM (fun k => decide (A 1 k = nI (c + 1)) && missF (A 1) k) (farF n) i v l → WP mX8_nearest 33 [some (.ref b), some (.int (nI c)), some (.int v), some (.int (nI l)), some (.int (nI (n % 12))), some (.int (nI (n / 12))), some (.int (nI i)), l7, l8, l9, l10] [] M z 0 0 (pE (IsNear (fun k => decide (A 1 k = nI (c + 1)) && missF (A 1) k) (farF n)) M z) := by
  intro d
  induction d with
  | zero =>
    intro i v l l7 l8 l9 l10 hi hN
    obtain rfl : i = 144 := by omega
    refine g_iload_6 dX8_nearest_33 ?_
    refine g_sipush (v := nI 144) dX8_nearest_35 rfl ?_
    refine g_icmp_geN (tgt := 150) dX8_nearest_38 (by decide) (by omega) (by omega) (fun _ => ?_) (fun h38 => absurd h38 (by omega))
    refine g_iload_2 dX8_nearest_150 ?_
    exact g_ireturn rfl rfl dX8_nearest_151 (Nat.le_of_ble_eq_true rfl) (Nat.le_of_ble_eq_true rfl) ⟨v, hN.fin, rfl, rfl, rfl⟩
  | succ d ih =>
    intro i v l l7 l8 l9 l10 hi hN
    exact m_near33 hA (by omega) hn hN (hN.lt (fun k hk => far_le n k hn (by omega))) (fun v' l' a1 a2 a3 a4 h => ih (i + 1) (by omega) h)
theorem m_nearest (hA : MAt M b I A) (hnd : A 1 457 = nI n) (hn : n < 144) : Runs mX8_nearest [.ref b, .int (nI c)] M z (pE (IsNear (fun k => decide (A 1 k = nI (c + 1)) && missF (A 1) k) (farF n)) M z) := by
  refine runs_of plX8 rfl (Nat.le_of_ble_eq_true rfl) ?_
  show WP mX8_nearest 0 [some (.ref b), some (.int (nI c)), none, none, none, none, none, none, none, none, none] [] M z 0 0 _
  refine g_iconst (v := -1) dX8_nearest_0 rfl ?_
  refine g_istore_2 rfl dX8_nearest_1 ?_
  refine g_iconst (v := nI 0) dX8_nearest_2 rfl ?_
  refine g_istore_3 rfl dX8_nearest_3 ?_
  refine g_aload_0 dX8_nearest_4 ?_
  refine g_get dX8_nearest_5 (fX8_7 rfl) hA.1 rfl ?_
  refine g_sipush (v := nI 457) dX8_nearest_8 rfl ?_
  refine g_ialdN dX8_nearest_11 hA.2.1 (by decide) (by decide) ?_
  rw [hnd]
  refine g_bipush (v := nI 12) dX8_nearest_12 rfl ?_
  refine g_iremN dX8_nearest_14 (by omega) (by omega) (by omega) ?_
  refine g_istore_4 rfl dX8_nearest_15 ?_
  refine g_aload_0 dX8_nearest_17 ?_
  refine g_get dX8_nearest_18 (fX8_7 rfl) hA.1 rfl ?_
  refine g_sipush (v := nI 457) dX8_nearest_21 rfl ?_
  refine g_ialdN dX8_nearest_24 hA.2.1 (by decide) (by decide) ?_
  rw [hnd]
  refine g_bipush (v := nI 12) dX8_nearest_25 rfl ?_
  refine g_idivN dX8_nearest_27 (by omega) (by omega) (by omega) ?_
  refine g_istore_5 rfl dX8_nearest_28 ?_
  refine g_iconst (v := nI 0) dX8_nearest_30 rfl ?_
  refine g_istore_6 rfl dX8_nearest_31 ?_
  exact m_near_l hA hn 144 0 rfl (Or.inl ⟨rfl, rfl, fun k hk => absurd hk (by omega)⟩)
end P56
