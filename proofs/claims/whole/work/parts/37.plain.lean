section P37
variable {M M0 : Hp} {z b c j i n len p : Nat} {f g : Row} {x y w v G : Int32} {I : Row} {A : Nat → Row} {gd bq : Bool} {Φ : GR → Hp → Nat → Prop}
/-- what reading leaves: the place, whether good, the greatest motif -/
def RdQ (M : Hp) (b : Nat) (I : Row) (A : Nat → Row) (p' : Nat) (ok : Bool) (G' : Int32) (z : Nat) : GR → Hp → Nat → Prop := fun r M' z' => r = .inl none ∧ (∃ I', MAt M' b I' A ∧ I' 17 = nI p' ∧ I' 18 = bI ok ∧ I' 19 = G' ∧ ∀ k, k ≠ 17 → k ≠ 18 → k ≠ 19 → I' k = I k) ∧ Out M M' b 13 ∧ z' = z
theorem upd3 {k : Nat} {a c : Int32} (h7 : k ≠ 17) (h8 : k ≠ 18) : upd (upd I 18 a) 17 c k = I k := by rw [upd_ne h7, upd_ne h8]
theorem m_plain_l (hA : MAt M b I A) (hl : I 16 = nI len) (hp : I 17 = nI p) (hlen : len ≤ 120) (hp9 : p < 900) (hg : I 18 = bI true) (hG : I 19 = G) (hc : herF A len p = nI 108) : Runs mX8_readPlain [.ref b] M z (RdQ M b I A (p + 1) true G z) := by
  have hao := hA.1
  refine runs_of plX8 rfl (Nat.le_of_ble_eq_true rfl) ?_
  show WP mX8_readPlain 0 [some (.ref b), none, none, none] [] M z 0 0 _
  refine g_aload_0 dX8_readPlain_0 ?_
  refine g_v0_1 dX8_readPlain_1 (vX8_160 rfl) rfl hao (Nat.le_of_ble_eq_true rfl) ⟨rfl, rfl⟩ (Nat.le_of_ble_eq_true rfl) (Nat.le_of_ble_eq_true rfl) (m_here hA hl hp hlen (by omega)) ?_
  rw [show (if p < len then A 12 p else -1) = herF A len p from rfl, hc]
  refine g_istore_1 rfl dX8_readPlain_4 ?_
  refine g_aload_0 dX8_readPlain_5 ?_
  refine g_iload_1 dX8_readPlain_6 ?_
  refine g_bipush (v := nI 115) dX8_readPlain_7 rfl ?_
  refine g_icmp_eqN (tgt := 60) dX8_readPlain_9 (by decide) (by omega) (by omega) (fun h9 => absurd h9 (by decide)) (fun _ => ?_)
  refine g_iload_1 dX8_readPlain_12 ?_
  refine g_bipush (v := nI 106) dX8_readPlain_13 rfl ?_
  refine g_icmp_eqN (tgt := 60) dX8_readPlain_15 (by decide) (by omega) (by omega) (fun h15 => absurd h15 (by decide)) (fun _ => ?_)
  refine g_iload_1 dX8_readPlain_18 ?_
  refine g_bipush (v := nI 108) dX8_readPlain_19 rfl ?_
  refine g_icmp_eqN (tgt := 60) dX8_readPlain_21 (by decide) (by omega) (by omega) (fun _ => ?_) (fun h21 => absurd rfl h21)
  refine g_iconst (v := nI 1) dX8_readPlain_60 rfl ?_
  refine g_goto (tgt := 65) dX8_readPlain_61 (by decide) ?_
  refine g_v1 dX8_readPlain_65 (vX8_164 rfl) rfl hao (Nat.le_of_ble_eq_true rfl) (Nat.le_of_ble_eq_true rfl) (Nat.le_of_ble_eq_true rfl) (m_take (bq := true) hA hp hg) (fun r M2 z2 hq => ?_) (fun E M2 z2 hq => by obtain ⟨hq, -⟩ := hq; cases hq)
  obtain ⟨hr, hA1, hO1, rfl⟩ := hq
  cases hr
  have hA1 : MAt _ b (upd (upd I 18 (bI true)) 17 (nI (p + 1))) A := hA1
  have hao1 := hA1.1
  refine g_iload_1 dX8_readPlain_68 ?_
  refine g_bipush (v := nI 115) dX8_readPlain_69 rfl ?_
  refine g_icmp_eqN (tgt := 80) dX8_readPlain_71 (by decide) (by omega) (by omega) (fun h71 => absurd h71 (by decide)) (fun _ => ?_)
  refine g_iload_1 dX8_readPlain_74 ?_
  refine g_bipush (v := nI 106) dX8_readPlain_75 rfl ?_
  refine g_icmp_neN (tgt := 114) dX8_readPlain_77 (by decide) (by omega) (by omega) (fun _ => ?_) (fun h77 => absurd h77 (by decide))
  refine g_iload_1 dX8_readPlain_114 ?_
  refine g_bipush (v := nI 99) dX8_readPlain_115 rfl ?_
  refine g_icmp_neN (tgt := 130) dX8_readPlain_117 (by decide) (by omega) (by omega) (fun _ => ?_) (fun h117 => absurd h117 (by decide))
  refine g_iload_1 dX8_readPlain_130 ?_
  refine g_bipush (v := nI 104) dX8_readPlain_131 rfl ?_
  refine g_icmp_neN (tgt := 147) dX8_readPlain_133 (by decide) (by omega) (by omega) (fun _ => ?_) (fun h133 => absurd h133 (by decide))
  refine g_iload_1 dX8_readPlain_147 ?_
  refine g_bipush (v := nI 109) dX8_readPlain_148 rfl ?_
  refine g_icmp_neN (tgt := 180) dX8_readPlain_150 (by decide) (by omega) (by omega) (fun _ => ?_) (fun h150 => absurd h150 (by decide))
  exact g_return rfl dX8_readPlain_180 (Nat.le_of_ble_eq_true rfl) (Nat.le_of_ble_eq_true rfl) ⟨rfl, ⟨_, hA1, rfl, rfl, hG, fun k k7 k8 _ => upd3 k7 k8⟩, hO1, rfl⟩
theorem m_plain_r (hA : MAt M b I A) (hl : I 16 = nI len) (hp : I 17 = nI p) (hlen : len ≤ 120) (hp9 : p < 900) (hg : I 18 = bI true) (hG : I 19 = G) (hc : herF A len p = nI 114) : Runs mX8_readPlain [.ref b] M z (RdQ M b I A (p + 1) true G z) := by
  have hao := hA.1
  refine runs_of plX8 rfl (Nat.le_of_ble_eq_true rfl) ?_
  show WP mX8_readPlain 0 [some (.ref b), none, none, none] [] M z 0 0 _
  refine g_aload_0 dX8_readPlain_0 ?_
  refine g_v0_1 dX8_readPlain_1 (vX8_160 rfl) rfl hao (Nat.le_of_ble_eq_true rfl) ⟨rfl, rfl⟩ (Nat.le_of_ble_eq_true rfl) (Nat.le_of_ble_eq_true rfl) (m_here hA hl hp hlen (by omega)) ?_
  rw [show (if p < len then A 12 p else -1) = herF A len p from rfl, hc]
  refine g_istore_1 rfl dX8_readPlain_4 ?_
  refine g_aload_0 dX8_readPlain_5 ?_
  refine g_iload_1 dX8_readPlain_6 ?_
  refine g_bipush (v := nI 115) dX8_readPlain_7 rfl ?_
  refine g_icmp_eqN (tgt := 60) dX8_readPlain_9 (by decide) (by omega) (by omega) (fun h9 => absurd h9 (by decide)) (fun _ => ?_)
  refine g_iload_1 dX8_readPlain_12 ?_
  refine g_bipush (v := nI 106) dX8_readPlain_13 rfl ?_
  refine g_icmp_eqN (tgt := 60) dX8_readPlain_15 (by decide) (by omega) (by omega) (fun h15 => absurd h15 (by decide)) (fun _ => ?_)
  refine g_iload_1 dX8_readPlain_18 ?_
  refine g_bipush (v := nI 108) dX8_readPlain_19 rfl ?_
  refine g_icmp_eqN (tgt := 60) dX8_readPlain_21 (by decide) (by omega) (by omega) (fun h21 => absurd h21 (by decide)) (fun _ => ?_)
  refine g_iload_1 dX8_readPlain_24 ?_
  refine g_bipush (v := nI 114) dX8_readPlain_25 rfl ?_
  refine g_icmp_eqN (tgt := 60) dX8_readPlain_27 (by decide) (by omega) (by omega) (fun _ => ?_) (fun h27 => absurd rfl h27)
  refine g_iconst (v := nI 1) dX8_readPlain_60 rfl ?_
  refine g_goto (tgt := 65) dX8_readPlain_61 (by decide) ?_
  refine g_v1 dX8_readPlain_65 (vX8_164 rfl) rfl hao (Nat.le_of_ble_eq_true rfl) (Nat.le_of_ble_eq_true rfl) (Nat.le_of_ble_eq_true rfl) (m_take (bq := true) hA hp hg) (fun r M2 z2 hq => ?_) (fun E M2 z2 hq => by obtain ⟨hq, -⟩ := hq; cases hq)
  obtain ⟨hr, hA1, hO1, rfl⟩ := hq
  cases hr
  have hA1 : MAt _ b (upd (upd I 18 (bI true)) 17 (nI (p + 1))) A := hA1
  have hao1 := hA1.1
  refine g_iload_1 dX8_readPlain_68 ?_
  refine g_bipush (v := nI 115) dX8_readPlain_69 rfl ?_
  refine g_icmp_eqN (tgt := 80) dX8_readPlain_71 (by decide) (by omega) (by omega) (fun h71 => absurd h71 (by decide)) (fun _ => ?_)
  refine g_iload_1 dX8_readPlain_74 ?_
  refine g_bipush (v := nI 106) dX8_readPlain_75 rfl ?_
  refine g_icmp_neN (tgt := 114) dX8_readPlain_77 (by decide) (by omega) (by omega) (fun _ => ?_) (fun h77 => absurd h77 (by decide))
  refine g_iload_1 dX8_readPlain_114 ?_
  refine g_bipush (v := nI 99) dX8_readPlain_115 rfl ?_
  refine g_icmp_neN (tgt := 130) dX8_readPlain_117 (by decide) (by omega) (by omega) (fun _ => ?_) (fun h117 => absurd h117 (by decide))
  refine g_iload_1 dX8_readPlain_130 ?_
  refine g_bipush (v := nI 104) dX8_readPlain_131 rfl ?_
  refine g_icmp_neN (tgt := 147) dX8_readPlain_133 (by decide) (by omega) (by omega) (fun _ => ?_) (fun h133 => absurd h133 (by decide))
  refine g_iload_1 dX8_readPlain_147 ?_
  refine g_bipush (v := nI 109) dX8_readPlain_148 rfl ?_
  refine g_icmp_neN (tgt := 180) dX8_readPlain_150 (by decide) (by omega) (by omega) (fun _ => ?_) (fun h150 => absurd h150 (by decide))
  exact g_return rfl dX8_readPlain_180 (Nat.le_of_ble_eq_true rfl) (Nat.le_of_ble_eq_true rfl) ⟨rfl, ⟨_, hA1, rfl, rfl, hG, fun k k7 k8 _ => upd3 k7 k8⟩, hO1, rfl⟩
theorem m_plain_x (hA : MAt M b I A) (hl : I 16 = nI len) (hp : I 17 = nI p) (hlen : len ≤ 120) (hp9 : p < 900) (hg : I 18 = bI true) (hG : I 19 = G) (hc : herF A len p = nI 120) : Runs mX8_readPlain [.ref b] M z (RdQ M b I A (p + 1) true G z) := by
  have hao := hA.1
  refine runs_of plX8 rfl (Nat.le_of_ble_eq_true rfl) ?_
  show WP mX8_readPlain 0 [some (.ref b), none, none, none] [] M z 0 0 _
  refine g_aload_0 dX8_readPlain_0 ?_
  refine g_v0_1 dX8_readPlain_1 (vX8_160 rfl) rfl hao (Nat.le_of_ble_eq_true rfl) ⟨rfl, rfl⟩ (Nat.le_of_ble_eq_true rfl) (Nat.le_of_ble_eq_true rfl) (m_here hA hl hp hlen (by omega)) ?_
  rw [show (if p < len then A 12 p else -1) = herF A len p from rfl, hc]
  refine g_istore_1 rfl dX8_readPlain_4 ?_
  refine g_aload_0 dX8_readPlain_5 ?_
  refine g_iload_1 dX8_readPlain_6 ?_
  refine g_bipush (v := nI 115) dX8_readPlain_7 rfl ?_
  refine g_icmp_eqN (tgt := 60) dX8_readPlain_9 (by decide) (by omega) (by omega) (fun h9 => absurd h9 (by decide)) (fun _ => ?_)
  refine g_iload_1 dX8_readPlain_12 ?_
  refine g_bipush (v := nI 106) dX8_readPlain_13 rfl ?_
  refine g_icmp_eqN (tgt := 60) dX8_readPlain_15 (by decide) (by omega) (by omega) (fun h15 => absurd h15 (by decide)) (fun _ => ?_)
  refine g_iload_1 dX8_readPlain_18 ?_
  refine g_bipush (v := nI 108) dX8_readPlain_19 rfl ?_
  refine g_icmp_eqN (tgt := 60) dX8_readPlain_21 (by decide) (by omega) (by omega) (fun h21 => absurd h21 (by decide)) (fun _ => ?_)
  refine g_iload_1 dX8_readPlain_24 ?_
  refine g_bipush (v := nI 114) dX8_readPlain_25 rfl ?_
  refine g_icmp_eqN (tgt := 60) dX8_readPlain_27 (by decide) (by omega) (by omega) (fun h27 => absurd h27 (by decide)) (fun _ => ?_)
  refine g_iload_1 dX8_readPlain_30 ?_
  refine g_bipush (v := nI 99) dX8_readPlain_31 rfl ?_
  refine g_icmp_eqN (tgt := 60) dX8_readPlain_33 (by decide) (by omega) (by omega) (fun h33 => absurd h33 (by decide)) (fun _ => ?_)
  refine g_iload_1 dX8_readPlain_36 ?_
  refine g_bipush (v := nI 104) dX8_readPlain_37 rfl ?_
  refine g_icmp_eqN (tgt := 60) dX8_readPlain_39 (by decide) (by omega) (by omega) (fun h39 => absurd h39 (by decide)) (fun _ => ?_)
  refine g_iload_1 dX8_readPlain_42 ?_
  refine g_bipush (v := nI 120) dX8_readPlain_43 rfl ?_
  refine g_icmp_eqN (tgt := 60) dX8_readPlain_45 (by decide) (by omega) (by omega) (fun _ => ?_) (fun h45 => absurd rfl h45)
  refine g_iconst (v := nI 1) dX8_readPlain_60 rfl ?_
  refine g_goto (tgt := 65) dX8_readPlain_61 (by decide) ?_
  refine g_v1 dX8_readPlain_65 (vX8_164 rfl) rfl hao (Nat.le_of_ble_eq_true rfl) (Nat.le_of_ble_eq_true rfl) (Nat.le_of_ble_eq_true rfl) (m_take (bq := true) hA hp hg) (fun r M2 z2 hq => ?_) (fun E M2 z2 hq => by obtain ⟨hq, -⟩ := hq; cases hq)
  obtain ⟨hr, hA1, hO1, rfl⟩ := hq
  cases hr
  have hA1 : MAt _ b (upd (upd I 18 (bI true)) 17 (nI (p + 1))) A := hA1
  have hao1 := hA1.1
  refine g_iload_1 dX8_readPlain_68 ?_
  refine g_bipush (v := nI 115) dX8_readPlain_69 rfl ?_
  refine g_icmp_eqN (tgt := 80) dX8_readPlain_71 (by decide) (by omega) (by omega) (fun h71 => absurd h71 (by decide)) (fun _ => ?_)
  refine g_iload_1 dX8_readPlain_74 ?_
  refine g_bipush (v := nI 106) dX8_readPlain_75 rfl ?_
  refine g_icmp_neN (tgt := 114) dX8_readPlain_77 (by decide) (by omega) (by omega) (fun _ => ?_) (fun h77 => absurd h77 (by decide))
  refine g_iload_1 dX8_readPlain_114 ?_
  refine g_bipush (v := nI 99) dX8_readPlain_115 rfl ?_
  refine g_icmp_neN (tgt := 130) dX8_readPlain_117 (by decide) (by omega) (by omega) (fun _ => ?_) (fun h117 => absurd h117 (by decide))
  refine g_iload_1 dX8_readPlain_130 ?_
  refine g_bipush (v := nI 104) dX8_readPlain_131 rfl ?_
  refine g_icmp_neN (tgt := 147) dX8_readPlain_133 (by decide) (by omega) (by omega) (fun _ => ?_) (fun h133 => absurd h133 (by decide))
  refine g_iload_1 dX8_readPlain_147 ?_
  refine g_bipush (v := nI 109) dX8_readPlain_148 rfl ?_
  refine g_icmp_neN (tgt := 180) dX8_readPlain_150 (by decide) (by omega) (by omega) (fun _ => ?_) (fun h150 => absurd h150 (by decide))
  exact g_return rfl dX8_readPlain_180 (Nat.le_of_ble_eq_true rfl) (Nat.le_of_ble_eq_true rfl) ⟨rfl, ⟨_, hA1, rfl, rfl, hG, fun k k7 k8 _ => upd3 k7 k8⟩, hO1, rfl⟩
theorem m_plain_e (hA : MAt M b I A) (hl : I 16 = nI len) (hp : I 17 = nI p) (hlen : len ≤ 120) (hp9 : p < 900) (hg : I 18 = bI true) (hG : I 19 = G) (hc : herF A len p = nI 101) : Runs mX8_readPlain [.ref b] M z (RdQ M b I A (p + 1) true G z) := by
  have hao := hA.1
  refine runs_of plX8 rfl (Nat.le_of_ble_eq_true rfl) ?_
  show WP mX8_readPlain 0 [some (.ref b), none, none, none] [] M z 0 0 _
  refine g_aload_0 dX8_readPlain_0 ?_
  refine g_v0_1 dX8_readPlain_1 (vX8_160 rfl) rfl hao (Nat.le_of_ble_eq_true rfl) ⟨rfl, rfl⟩ (Nat.le_of_ble_eq_true rfl) (Nat.le_of_ble_eq_true rfl) (m_here hA hl hp hlen (by omega)) ?_
  rw [show (if p < len then A 12 p else -1) = herF A len p from rfl, hc]
  refine g_istore_1 rfl dX8_readPlain_4 ?_
  refine g_aload_0 dX8_readPlain_5 ?_
  refine g_iload_1 dX8_readPlain_6 ?_
  refine g_bipush (v := nI 115) dX8_readPlain_7 rfl ?_
  refine g_icmp_eqN (tgt := 60) dX8_readPlain_9 (by decide) (by omega) (by omega) (fun h9 => absurd h9 (by decide)) (fun _ => ?_)
  refine g_iload_1 dX8_readPlain_12 ?_
  refine g_bipush (v := nI 106) dX8_readPlain_13 rfl ?_
  refine g_icmp_eqN (tgt := 60) dX8_readPlain_15 (by decide) (by omega) (by omega) (fun h15 => absurd h15 (by decide)) (fun _ => ?_)
  refine g_iload_1 dX8_readPlain_18 ?_
  refine g_bipush (v := nI 108) dX8_readPlain_19 rfl ?_
  refine g_icmp_eqN (tgt := 60) dX8_readPlain_21 (by decide) (by omega) (by omega) (fun h21 => absurd h21 (by decide)) (fun _ => ?_)
  refine g_iload_1 dX8_readPlain_24 ?_
  refine g_bipush (v := nI 114) dX8_readPlain_25 rfl ?_
  refine g_icmp_eqN (tgt := 60) dX8_readPlain_27 (by decide) (by omega) (by omega) (fun h27 => absurd h27 (by decide)) (fun _ => ?_)
  refine g_iload_1 dX8_readPlain_30 ?_
  refine g_bipush (v := nI 99) dX8_readPlain_31 rfl ?_
  refine g_icmp_eqN (tgt := 60) dX8_readPlain_33 (by decide) (by omega) (by omega) (fun h33 => absurd h33 (by decide)) (fun _ => ?_)
  refine g_iload_1 dX8_readPlain_36 ?_
  refine g_bipush (v := nI 104) dX8_readPlain_37 rfl ?_
  refine g_icmp_eqN (tgt := 60) dX8_readPlain_39 (by decide) (by omega) (by omega) (fun h39 => absurd h39 (by decide)) (fun _ => ?_)
  refine g_iload_1 dX8_readPlain_42 ?_
  refine g_bipush (v := nI 120) dX8_readPlain_43 rfl ?_
  refine g_icmp_eqN (tgt := 60) dX8_readPlain_45 (by decide) (by omega) (by omega) (fun h45 => absurd h45 (by decide)) (fun _ => ?_)
  refine g_iload_1 dX8_readPlain_48 ?_
  refine g_bipush (v := nI 101) dX8_readPlain_49 rfl ?_
  refine g_icmp_eqN (tgt := 60) dX8_readPlain_51 (by decide) (by omega) (by omega) (fun _ => ?_) (fun h51 => absurd rfl h51)
  refine g_iconst (v := nI 1) dX8_readPlain_60 rfl ?_
  refine g_goto (tgt := 65) dX8_readPlain_61 (by decide) ?_
  refine g_v1 dX8_readPlain_65 (vX8_164 rfl) rfl hao (Nat.le_of_ble_eq_true rfl) (Nat.le_of_ble_eq_true rfl) (Nat.le_of_ble_eq_true rfl) (m_take (bq := true) hA hp hg) (fun r M2 z2 hq => ?_) (fun E M2 z2 hq => by obtain ⟨hq, -⟩ := hq; cases hq)
  obtain ⟨hr, hA1, hO1, rfl⟩ := hq
  cases hr
  have hA1 : MAt _ b (upd (upd I 18 (bI true)) 17 (nI (p + 1))) A := hA1
  have hao1 := hA1.1
  refine g_iload_1 dX8_readPlain_68 ?_
  refine g_bipush (v := nI 115) dX8_readPlain_69 rfl ?_
  refine g_icmp_eqN (tgt := 80) dX8_readPlain_71 (by decide) (by omega) (by omega) (fun h71 => absurd h71 (by decide)) (fun _ => ?_)
  refine g_iload_1 dX8_readPlain_74 ?_
  refine g_bipush (v := nI 106) dX8_readPlain_75 rfl ?_
  refine g_icmp_neN (tgt := 114) dX8_readPlain_77 (by decide) (by omega) (by omega) (fun _ => ?_) (fun h77 => absurd h77 (by decide))
  refine g_iload_1 dX8_readPlain_114 ?_
  refine g_bipush (v := nI 99) dX8_readPlain_115 rfl ?_
  refine g_icmp_neN (tgt := 130) dX8_readPlain_117 (by decide) (by omega) (by omega) (fun _ => ?_) (fun h117 => absurd h117 (by decide))
  refine g_iload_1 dX8_readPlain_130 ?_
  refine g_bipush (v := nI 104) dX8_readPlain_131 rfl ?_
  refine g_icmp_neN (tgt := 147) dX8_readPlain_133 (by decide) (by omega) (by omega) (fun _ => ?_) (fun h133 => absurd h133 (by decide))
  refine g_iload_1 dX8_readPlain_147 ?_
  refine g_bipush (v := nI 109) dX8_readPlain_148 rfl ?_
  refine g_icmp_neN (tgt := 180) dX8_readPlain_150 (by decide) (by omega) (by omega) (fun _ => ?_) (fun h150 => absurd h150 (by decide))
  exact g_return rfl dX8_readPlain_180 (Nat.le_of_ble_eq_true rfl) (Nat.le_of_ble_eq_true rfl) ⟨rfl, ⟨_, hA1, rfl, rfl, hG, fun k k7 k8 _ => upd3 k7 k8⟩, hO1, rfl⟩
theorem m_plain_c (hA : MAt M b I A) (hl : I 16 = nI len) (hp : I 17 = nI p) (hlen : len ≤ 120) (hp9 : p < 900) (hg : I 18 = bI true) (hG : I 19 = G) (hc : herF A len p = nI 99) : Runs mX8_readPlain [.ref b] M z (RdQ M b I A (takP (p + 1) (digB A len (p + 1) 0 4)) (digB A len (p + 1) 0 4) G z) := by
  have hao := hA.1
  refine runs_of plX8 rfl (Nat.le_of_ble_eq_true rfl) ?_
  show WP mX8_readPlain 0 [some (.ref b), none, none, none] [] M z 0 0 _
  refine g_aload_0 dX8_readPlain_0 ?_
  refine g_v0_1 dX8_readPlain_1 (vX8_160 rfl) rfl hao (Nat.le_of_ble_eq_true rfl) ⟨rfl, rfl⟩ (Nat.le_of_ble_eq_true rfl) (Nat.le_of_ble_eq_true rfl) (m_here hA hl hp hlen (by omega)) ?_
  rw [show (if p < len then A 12 p else -1) = herF A len p from rfl, hc]
  refine g_istore_1 rfl dX8_readPlain_4 ?_
  refine g_aload_0 dX8_readPlain_5 ?_
  refine g_iload_1 dX8_readPlain_6 ?_
  refine g_bipush (v := nI 115) dX8_readPlain_7 rfl ?_
  refine g_icmp_eqN (tgt := 60) dX8_readPlain_9 (by decide) (by omega) (by omega) (fun h9 => absurd h9 (by decide)) (fun _ => ?_)
  refine g_iload_1 dX8_readPlain_12 ?_
  refine g_bipush (v := nI 106) dX8_readPlain_13 rfl ?_
  refine g_icmp_eqN (tgt := 60) dX8_readPlain_15 (by decide) (by omega) (by omega) (fun h15 => absurd h15 (by decide)) (fun _ => ?_)
  refine g_iload_1 dX8_readPlain_18 ?_
  refine g_bipush (v := nI 108) dX8_readPlain_19 rfl ?_
  refine g_icmp_eqN (tgt := 60) dX8_readPlain_21 (by decide) (by omega) (by omega) (fun h21 => absurd h21 (by decide)) (fun _ => ?_)
  refine g_iload_1 dX8_readPlain_24 ?_
  refine g_bipush (v := nI 114) dX8_readPlain_25 rfl ?_
  refine g_icmp_eqN (tgt := 60) dX8_readPlain_27 (by decide) (by omega) (by omega) (fun h27 => absurd h27 (by decide)) (fun _ => ?_)
  refine g_iload_1 dX8_readPlain_30 ?_
  refine g_bipush (v := nI 99) dX8_readPlain_31 rfl ?_
  refine g_icmp_eqN (tgt := 60) dX8_readPlain_33 (by decide) (by omega) (by omega) (fun _ => ?_) (fun h33 => absurd rfl h33)
  refine g_iconst (v := nI 1) dX8_readPlain_60 rfl ?_
  refine g_goto (tgt := 65) dX8_readPlain_61 (by decide) ?_
  refine g_v1 dX8_readPlain_65 (vX8_164 rfl) rfl hao (Nat.le_of_ble_eq_true rfl) (Nat.le_of_ble_eq_true rfl) (Nat.le_of_ble_eq_true rfl) (m_take (bq := true) hA hp hg) (fun r M2 z2 hq => ?_) (fun E M2 z2 hq => by obtain ⟨hq, -⟩ := hq; cases hq)
  obtain ⟨hr, hA1, hO1, rfl⟩ := hq
  cases hr
  have hA1 : MAt _ b (upd (upd I 18 (bI true)) 17 (nI (p + 1))) A := hA1
  have hao1 := hA1.1
  refine g_iload_1 dX8_readPlain_68 ?_
  refine g_bipush (v := nI 115) dX8_readPlain_69 rfl ?_
  refine g_icmp_eqN (tgt := 80) dX8_readPlain_71 (by decide) (by omega) (by omega) (fun h71 => absurd h71 (by decide)) (fun _ => ?_)
  refine g_iload_1 dX8_readPlain_74 ?_
  refine g_bipush (v := nI 106) dX8_readPlain_75 rfl ?_
  refine g_icmp_neN (tgt := 114) dX8_readPlain_77 (by decide) (by omega) (by omega) (fun _ => ?_) (fun h77 => absurd h77 (by decide))
  refine g_iload_1 dX8_readPlain_114 ?_
  refine g_bipush (v := nI 99) dX8_readPlain_115 rfl ?_
  refine g_icmp_neN (tgt := 130) dX8_readPlain_117 (by decide) (by omega) (by omega) (fun h117 => absurd rfl h117) (fun _ => ?_)
  refine g_aload_0 dX8_readPlain_120 ?_
  refine g_iconst (v := nI 0) dX8_readPlain_121 rfl ?_
  refine g_iconst (v := nI 4) dX8_readPlain_122 rfl ?_
  refine g_v2 dX8_readPlain_123 (vX8_167 rfl) rfl hao1 (Nat.le_of_ble_eq_true rfl) (Nat.le_of_ble_eq_true rfl) (Nat.le_of_ble_eq_true rfl) (m_digit (lo := 0) (hi := 4) (len := len) (p := p + 1) (gd := true) hA1 hl rfl hlen (by omega) rfl (by decide) (by decide)) (fun r M2 z2 hq => ?_) (fun E M2 z2 hq => by obtain ⟨hq, -⟩ := hq; cases hq)
  obtain ⟨hr, hA2, hO2, rfl⟩ := hq
  cases hr
  refine g_istore_2 rfl dX8_readPlain_126 ?_
  refine g_goto (tgt := 180) dX8_readPlain_127 (by decide) ?_
  exact g_return rfl dX8_readPlain_180 (Nat.le_of_ble_eq_true rfl) (Nat.le_of_ble_eq_true rfl) ⟨rfl, ⟨_, hA2, rfl, rfl, hG, fun k k7 k8 _ => (upd3 k7 k8).trans (upd3 k7 k8)⟩, hO1.tr hO2, rfl⟩
theorem m_plain_h (hA : MAt M b I A) (hl : I 16 = nI len) (hp : I 17 = nI p) (hlen : len ≤ 120) (hp9 : p < 900) (hg : I 18 = bI true) (hG : I 19 = G) (hc : herF A len p = nI 104) : Runs mX8_readPlain [.ref b] M z (RdQ M b I A (takP (p + 1) (digB A len (p + 1) 1 9)) (digB A len (p + 1) 1 9) G z) := by
  have hao := hA.1
  refine runs_of plX8 rfl (Nat.le_of_ble_eq_true rfl) ?_
  show WP mX8_readPlain 0 [some (.ref b), none, none, none] [] M z 0 0 _
  refine g_aload_0 dX8_readPlain_0 ?_
  refine g_v0_1 dX8_readPlain_1 (vX8_160 rfl) rfl hao (Nat.le_of_ble_eq_true rfl) ⟨rfl, rfl⟩ (Nat.le_of_ble_eq_true rfl) (Nat.le_of_ble_eq_true rfl) (m_here hA hl hp hlen (by omega)) ?_
  rw [show (if p < len then A 12 p else -1) = herF A len p from rfl, hc]
  refine g_istore_1 rfl dX8_readPlain_4 ?_
  refine g_aload_0 dX8_readPlain_5 ?_
  refine g_iload_1 dX8_readPlain_6 ?_
  refine g_bipush (v := nI 115) dX8_readPlain_7 rfl ?_
  refine g_icmp_eqN (tgt := 60) dX8_readPlain_9 (by decide) (by omega) (by omega) (fun h9 => absurd h9 (by decide)) (fun _ => ?_)
  refine g_iload_1 dX8_readPlain_12 ?_
  refine g_bipush (v := nI 106) dX8_readPlain_13 rfl ?_
  refine g_icmp_eqN (tgt := 60) dX8_readPlain_15 (by decide) (by omega) (by omega) (fun h15 => absurd h15 (by decide)) (fun _ => ?_)
  refine g_iload_1 dX8_readPlain_18 ?_
  refine g_bipush (v := nI 108) dX8_readPlain_19 rfl ?_
  refine g_icmp_eqN (tgt := 60) dX8_readPlain_21 (by decide) (by omega) (by omega) (fun h21 => absurd h21 (by decide)) (fun _ => ?_)
  refine g_iload_1 dX8_readPlain_24 ?_
  refine g_bipush (v := nI 114) dX8_readPlain_25 rfl ?_
  refine g_icmp_eqN (tgt := 60) dX8_readPlain_27 (by decide) (by omega) (by omega) (fun h27 => absurd h27 (by decide)) (fun _ => ?_)
  refine g_iload_1 dX8_readPlain_30 ?_
  refine g_bipush (v := nI 99) dX8_readPlain_31 rfl ?_
  refine g_icmp_eqN (tgt := 60) dX8_readPlain_33 (by decide) (by omega) (by omega) (fun h33 => absurd h33 (by decide)) (fun _ => ?_)
  refine g_iload_1 dX8_readPlain_36 ?_
  refine g_bipush (v := nI 104) dX8_readPlain_37 rfl ?_
  refine g_icmp_eqN (tgt := 60) dX8_readPlain_39 (by decide) (by omega) (by omega) (fun _ => ?_) (fun h39 => absurd rfl h39)
  refine g_iconst (v := nI 1) dX8_readPlain_60 rfl ?_
  refine g_goto (tgt := 65) dX8_readPlain_61 (by decide) ?_
  refine g_v1 dX8_readPlain_65 (vX8_164 rfl) rfl hao (Nat.le_of_ble_eq_true rfl) (Nat.le_of_ble_eq_true rfl) (Nat.le_of_ble_eq_true rfl) (m_take (bq := true) hA hp hg) (fun r M2 z2 hq => ?_) (fun E M2 z2 hq => by obtain ⟨hq, -⟩ := hq; cases hq)
  obtain ⟨hr, hA1, hO1, rfl⟩ := hq
  cases hr
  have hA1 : MAt _ b (upd (upd I 18 (bI true)) 17 (nI (p + 1))) A := hA1
  have hao1 := hA1.1
  refine g_iload_1 dX8_readPlain_68 ?_
  refine g_bipush (v := nI 115) dX8_readPlain_69 rfl ?_
  refine g_icmp_eqN (tgt := 80) dX8_readPlain_71 (by decide) (by omega) (by omega) (fun h71 => absurd h71 (by decide)) (fun _ => ?_)
  refine g_iload_1 dX8_readPlain_74 ?_
  refine g_bipush (v := nI 106) dX8_readPlain_75 rfl ?_
  refine g_icmp_neN (tgt := 114) dX8_readPlain_77 (by decide) (by omega) (by omega) (fun _ => ?_) (fun h77 => absurd h77 (by decide))
  refine g_iload_1 dX8_readPlain_114 ?_
  refine g_bipush (v := nI 99) dX8_readPlain_115 rfl ?_
  refine g_icmp_neN (tgt := 130) dX8_readPlain_117 (by decide) (by omega) (by omega) (fun _ => ?_) (fun h117 => absurd h117 (by decide))
  refine g_iload_1 dX8_readPlain_130 ?_
  refine g_bipush (v := nI 104) dX8_readPlain_131 rfl ?_
  refine g_icmp_neN (tgt := 147) dX8_readPlain_133 (by decide) (by omega) (by omega) (fun h133 => absurd rfl h133) (fun _ => ?_)
  refine g_aload_0 dX8_readPlain_136 ?_
  refine g_iconst (v := nI 1) dX8_readPlain_137 rfl ?_
  refine g_bipush (v := nI 9) dX8_readPlain_138 rfl ?_
  refine g_v2 dX8_readPlain_140 (vX8_167 rfl) rfl hao1 (Nat.le_of_ble_eq_true rfl) (Nat.le_of_ble_eq_true rfl) (Nat.le_of_ble_eq_true rfl) (m_digit (lo := 1) (hi := 9) (len := len) (p := p + 1) (gd := true) hA1 hl rfl hlen (by omega) rfl (by decide) (by decide)) (fun r M2 z2 hq => ?_) (fun E M2 z2 hq => by obtain ⟨hq, -⟩ := hq; cases hq)
  obtain ⟨hr, hA2, hO2, rfl⟩ := hq
  cases hr
  refine g_istore_2 rfl dX8_readPlain_143 ?_
  refine g_goto (tgt := 180) dX8_readPlain_144 (by decide) ?_
  exact g_return rfl dX8_readPlain_180 (Nat.le_of_ble_eq_true rfl) (Nat.le_of_ble_eq_true rfl) ⟨rfl, ⟨_, hA2, rfl, rfl, hG, fun k k7 k8 _ => (upd3 k7 k8).trans (upd3 k7 k8)⟩, hO1.tr hO2, rfl⟩
end P37
