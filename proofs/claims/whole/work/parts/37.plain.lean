section P37
variable {M M0 : Hp} {z b c j i n len p : Nat} {f g : Row} {x y w v G : Int32} {I : Row} {A : Nat → Row} {gd bq : Bool} {Φ : GR → Hp → Nat → Prop}
/-- what reading leaves: the place, whether good, the greatest motif -/
def RdQ (M : Hp) (b : Nat) (I : Row) (A : Nat → Row) (p' : Nat) (ok : Bool) (G' : Int32) (z : Nat) : GR → Hp → Nat → Prop := fun r M' z' => r = .inl none ∧ (∃ I', MAt M' b I' A ∧ I' 17 = nI p' ∧ I' 18 = bI ok ∧ I' 19 = G' ∧ ∀ k, k ≠ 17 → k ≠ 18 → k ≠ 19 → I' k = I k) ∧ Out M M' b 13 ∧ z' = z
theorem upd3 {k : Nat} {a c : Int32} (h7 : k ≠ 17) (h8 : k ≠ 18) : upd (upd I 18 a) 17 c k = I k := by rw [upd_ne h7, upd_ne h8]
theorem m_plain_l (hA : MAt M b I A) (hl : I 16 = nI len) (hp : I 17 = nI p) (hlen : len ≤ 120) (hp9 : p < 900) (hg : I 18 = bI true) (hG : I 19 = G) (hc : herF A len p = nI 108) : Runs mX8_readPlain [.ref b] M z (RdQ M b I A (p + 1) true G z) := by
  have hao := hA.1
  refine runs_of plX8 rfl (Nat.le_of_ble_eq_true rfl) ?_
  show WP mX8_readPlain 0 [some (.ref b), none, none, none] [] M z 0 0 _
  refine g_aload_0 dX8_readPlain_0 ?_
  refine g_v0_1 dX8_readPlain_1 (vX8_160 rfl) rfl hao (Nat.le_of_ble_eq_true rfl) ⟨rfl, rfl⟩ (Nat.le_of_ble_eq_true rfl) (Nat.le_of_ble_eq_true rfl) (m_here hA hl hp hlen (by omega)) ?_
  rw [show (if p < len then A 12 p else -1) = herF A len p from rfl, hc]
  refine g_istore_1 rfl dX8_readPlain_4 ?_
  refine g_aload_0 dX8_readPlain_5 ?_
  refine g_iload_1 dX8_readPlain_6 ?_
  refine g_bipush (v := nI 115) dX8_readPlain_7 rfl ?_
  refine g_icmp_eqN (tgt := 60) dX8_readPlain_9 (by decide) (by omega) (by omega) (fun h9 => absurd h9 (by decide)) (fun _ => ?_)
  refine g_iload_1 dX8_readPlain_12 ?_
  refine g_bipush (v := nI 106) dX8_readPlain_13 rfl ?_
  refine g_icmp_eqN (tgt := 60) dX8_readPlain_15 (by decide) (by omega) (by omega) (fun h15 => absurd h15 (by decide)) (fun _ => ?_)
  refine g_iload_1 dX8_readPlain_18 ?_
  refine g_bipush (v := nI 108) dX8_readPlain_19 rfl ?_
  refine g_icmp_eqN (tgt := 60) dX8_readPlain_21 (by decide) (by omega) (by omega) (fun _ => ?_) (fun h21 => absurd rfl h21)
  refine g_iconst (v := nI 1) dX8_readPlain_60 rfl ?_
  refine g_goto (tgt := 65) dX8_readPlain_61 (by decide) ?_
  refine g_v1 dX8_readPlain_65 (vX8_164 rfl) rfl hao (Nat.le_of_ble_eq_true rfl) (Nat.le_of_ble_eq_true rfl) (Nat.le_of_ble_eq_true rfl) (m_take (bq := true) hA hp hg) (fun r M2 z2 hq => ?_) (fun E M2 z2 hq => by obtain ⟨hq, -⟩ := hq; cases hq)
  obtain ⟨hr, hA1, hO1, rfl⟩ := hq
  cases hr
  have hA1 : MAt _ b (upd (upd I 18 (bI true)) 17 (nI (p + 1))) A := hA1
  have hao1 := hA1.1
  refine g_iload_1 dX8_readPlain_68 ?_
  refine g_bipush (v := nI 115) dX8_readPlain_69 rfl ?_
  refine g_icmp_eqN (tgt := 80) dX8_readPlain_71 (by decide) (by omega) (by omega) (fun h71 => absurd h71 (by decide)) (fun _ => ?_)
  refine g_iload_1 dX8_readPlain_74 ?_
  refine g_bipush (v := nI 106) dX8_readPlain_75 rfl ?_
  refine g_icmp_neN (tgt := 114) dX8_readPlain_77 (by decide) (by omega) (by omega) (fun _ => ?_) (fun h77 => absurd h77 (by decide))
  refine g_iload_1 dX8_readPlain_114 ?_
  refine g_bipush (v := nI 99) dX8_readPlain_115 rfl ?_
  refine g_icmp_neN (tgt := 130) dX8_readPlain_117 (by decide) (by omega) (by omega) (fun _ => ?_) (fun h117 => absurd h117 (by decide))
  refine g_iload_1 dX8_readPlain_130 ?_
  refine g_bipush (v := nI 104) dX8_readPlain_131 rfl ?_
  refine g_icmp_neN (tgt := 147) dX8_readPlain_133 (by decide) (by omega) (by omega) (fun _ => ?_) (fun h133 => absurd h133 (by decide))
  refine g_iload_1 dX8_readPlain_147 ?_
  refine g_bipush (v := nI 109) dX8_readPlain_148 rfl ?_
  refine g_icmp_neN (tgt := 180) dX8_readPlain_150 (by decide) (by omega) (by omega) (fun _ => ?_) (fun h150 => absurd h150 (by decide))
  exact g_return rfl dX8_readPlain_180 (Nat.le_of_ble_eq_true rfl) (Nat.le_of_ble_eq_true rfl) ⟨rfl, ⟨_, hA1, rfl, rfl, hG, fun k k7 k8 _ => upd3 k7 k8⟩, hO1, rfl⟩
theorem m_plain_r (hA : MAt M b I A) (hl : I 16 = nI len) (hp : I 17 = nI p) (hlen : len ≤ 120) (hp9 : p < 900) (hg : I 18 = bI true) (hG : I 19 = G) (hc : herF A len p = nI 114) : Runs mX8_readPlain [.ref b] M z (RdQ M b I A (p + 1) true G z) := by
  have hao := hA.1
  refine runs_of plX8 rfl (Nat.le_of_ble_eq_true rfl) ?_
  show WP mX8_readPlain 0 [some (.ref b), none, none, none] [] M z 0 0 _
  refine g_aload_0 dX8_readPlain_0 ?_
  refine g_v0_1 dX8_readPlain_1 (vX8_160 rfl) rfl hao (Nat.le_of_ble_eq_true rfl) ⟨rfl, rfl⟩ (Nat.le_of_ble_eq_true rfl) (Nat.le_of_ble_eq_true rfl) (m_here hA hl hp hlen (by omega)) ?_
  rw [show (if p < len then A 12 p else -1) = herF A len p from rfl, hc]
  refine g_istore_1 rfl dX8_readPlain_4 ?_
  refine g_aload_0 dX8_readPlain_5 ?_
  refine g_iload_1 dX8_readPlain_6 ?_
  refine g_bipush (v := nI 115) dX8_readPlain_7 rfl ?_
  refine g_icmp_eqN (tgt := 60) dX8_readPlain_9 (by decide) (by omega) (by omega) (fun h9 => absurd h9 (by decide)) (fun _ => ?_)
  refine g_iload_1 dX8_readPlain_12 ?_
  refine g_bipush (v := nI 106) dX8_readPlain_13 rfl ?_
  refine g_icmp_eqN (tgt := 60) dX8_readPlain_15 (by decide) (by omega) (by omega) (fun h15 => absurd h15 (by decide)) (fun _ => ?_)
  refine g_iload_1 dX8_readPlain_18 ?_
  refine g_bipush (v := nI 108) dX8_readPlain_19 rfl ?_
  refine g_icmp_eqN (tgt := 60) dX8_readPlain_21 (by decide) (by omega) (by omega) (fun h21 => absurd h21 (by decide)) (fun _ => ?_)
  refine g_iload_1 dX8_readPlain_24 ?_
  refine g_bipush (v := nI 114) dX8_readPlain_25 rfl ?_
  refine g_icmp_eqN (tgt := 60) dX8_readPlain_27 (by decide) (by omega) (by omega) (fun _ => ?_) (fun h27 => absurd rfl h27)
  refine g_iconst (v := nI 1) dX8_readPlain_60 rfl ?_
  refine g_goto (tgt := 65) dX8_readPlain_61 (by decide) ?_
  refine g_v1 dX8_readPlain_65 (vX8_164 rfl) rfl hao (Nat.le_of_ble_eq_true rfl) (Nat.le_of_ble_eq_true rfl) (Nat.le_of_ble_eq_true rfl) (m_take (bq := true) hA hp hg) (fun r M2 z2 hq => ?_) (fun E M2 z2 hq => by obtain ⟨hq, -⟩ := hq; cases hq)
  obtain ⟨hr, hA1, hO1, rfl⟩ := hq
  cases hr
  have hA1 : MAt _ b (upd (upd I 18 (bI true)) 17 (nI (p + 1))) A := hA1
  have hao1 := hA1.1
  refine g_iload_1 dX8_readPlain_68 ?_
  refine g_bipush (v := nI 115) dX8_readPlain_69 rfl ?_
  refine g_icmp_eqN (tgt := 80) dX8_readPlain_71 (by decide) (by omega) (by omega) (fun h71 => absurd h71 (by decide)) (fun _ => ?_)
  refine g_iload_1 dX8_readPlain_74 ?_
  refine g_bipush (v := nI 106) dX8_readPlain_75 rfl ?_
  refine g_icmp_neN (tgt := 114) dX8_readPlain_77 (by decide) (by omega) (by omega) (fun _ => ?_) (fun h77 => absurd h77 (by decide))
  refine g_iload_1 dX8_readPlain_114 ?_
  refine g_bipush (v := nI 99) dX8_readPlain_115 rfl ?_
  refine g_icmp_neN (tgt := 130) dX8_readPlain_117 (by decide) (by omega) (by omega) (fun _ => ?_) (fun h117 => absurd h117 (by decide))
  refine g_iload_1 dX8_readPlain_130 ?_
  refine g_bipush (v := nI 104) dX8_readPlain_131 rfl ?_
  refine g_icmp_neN (tgt := 147) dX8_readPlain_133 (by decide) (by omega) (by omega) (fun _ => ?_) (fun h133 => absurd h133 (by decide))
  refine g_iload_1 dX8_readPlain_147 ?_
  refine g_bipush (v := nI 109) dX8_readPlain_148 rfl ?_
  refine g_icmp_neN (tgt := 180) dX8_readPlain_150 (by decide) (by omega) (by omega) (fun _ => ?_) (fun h150 => absurd h150 (by decide))
  exact g_return rfl dX8_readPlain_180 (Nat.le_of_ble_eq_true rfl) (Nat.le_of_ble_eq_true rfl) ⟨rfl, ⟨_, hA1, rfl, rfl, hG, fun k k7 k8 _ => upd3 k7 k8⟩, hO1, rfl⟩
theorem m_plain_x (hA : MAt M b I A) (hl : I 16 = nI len) (hp : I 17 = nI p) (hlen : len ≤ 120) (hp9 : p < 900) (hg : I 18 = bI true) (hG : I 19 = G) (hc : herF A len p = nI 120) : Runs mX8_readPlain [.ref b] M z (RdQ M b I A (p + 1) true G z) := by
  have hao := hA.1
  refine runs_of plX8 rfl (Nat.le_of_ble_eq_true rfl) ?_
  show WP mX8_readPlain 0 [some (.ref b), none, none, none] [] M z 0 0 _
  refine g_aload_0 dX8_readPlain_0 ?_
  refine g_v0_1 dX8_readPlain_1 (vX8_160 rfl) rfl hao (Nat.le_of_ble_eq_true rfl) ⟨rfl, rfl⟩ (Nat.le_of_ble_eq_true rfl) (Nat.le_of_ble_eq_true rfl) (m_here hA hl hp hlen (by omega)) ?_
  rw [show (if p < len then A 12 p else -1) = herF A len p from rfl, hc]
  refine g_istore_1 rfl dX8_readPlain_4 ?_
  refine g_aload_0 dX8_readPlain_5 ?_
  refine g_iload_1 dX8_readPlain_6 ?_
  refine g_bipush (v := nI 115) dX8_readPlain_7 rfl ?_
  refine g_icmp_eqN (tgt := 60) dX8_readPlain_9 (by decide) (by omega) (by omega) (fun h9 => absurd h9 (by decide)) (fun _ => ?_)
  refine g_iload_1 dX8_readPlain_12 ?_
  refine g_bipush (v := nI 106) dX8_readPlain_13 rfl ?_
  refine g_icmp_eqN (tgt := 60) dX8_readPlain_15 (by decide) (by omega) (by omega) (fun h15 => absurd h15 (by decide)) (fun _ => ?_)
  refine g_iload_1 dX8_readPlain_18 ?_
  refine g_bipush (v := nI 108) dX8_readPlain_19 rfl ?_
  refine g_icmp_eqN (tgt := 60) dX8_readPlain_21 (by decide) (by omega) (by omega) (fun h21 => absurd h21 (by decide)) (fun _ => ?_)
  refine g_iload_1 dX8_readPlain_24 ?_
  refine g_bipush (v := nI 114) dX8_readPlain_25 rfl ?_
  refine g_icmp_eqN (tgt := 60) dX8_readPlain_27 (by decide) (by omega) (by omega) (fun h27 => absurd h27 (by decide)) (fun _ => ?_)
  refine g_iload_1 dX8_readPlain_30 ?_
  refine g_bipush (v := nI 99) dX8_readPlain_31 rfl ?_
  refine g_icmp_eqN (tgt := 60) dX8_readPlain_33 (by decide) (by omega) (by omega) (fun h33 => absurd h33 (by decide)) (fun _ => ?_)
  refine g_iload_1 dX8_readPlain_36 ?_
  refine g_bipush (v := nI 104) dX8_readPlain_37 rfl ?_
  refine g_icmp_eqN (tgt := 60) dX8_readPlain_39 (by decide) (by omega) (by omega) (fun h39 => absurd h39 (by decide)) (fun _ => ?_)
  refine g_iload_1 dX8_readPlain_42 ?_
  refine g_bipush (v := nI 120) dX8_readPlain_43 rfl ?_
  refine g_icmp_eqN (tgt := 60) dX8_readPlain_45 (by decide) (by omega) (by omega) (fun _ => ?_) (fun h45 => absurd rfl h45)
  refine g_iconst (v := nI 1) dX8_readPlain_60 rfl ?_
  refine g_goto (tgt := 65) dX8_readPlain_61 (by decide) ?_
  refine g_v1 dX8_readPlain_65 (vX8_164 rfl) rfl hao (Nat.le_of_ble_eq_true rfl) (Nat.le_of_ble_eq_true rfl) (Nat.le_of_ble_eq_true rfl) (m_take (bq := true) hA hp hg) (fun r M2 z2 hq => ?_) (fun E M2 z2 hq => by obtain ⟨hq, -⟩ := hq; cases hq)
  obtain ⟨hr, hA1, hO1, rfl⟩ := hq
  cases hr
  have hA1 : MAt _ b (upd (upd I 18 (bI true)) 17 (nI (p + 1))) A := hA1
  have hao1 := hA1.1
  refine g_iload_1 dX8_readPlain_68 ?_
  refine g_bipush (v := nI 115) dX8_readPlain_69 rfl ?_
  refine g_icmp_eqN (tgt := 80) dX8_readPlain_71 (by decide) (by omega) (by omega) (fun h71 => absurd h71 (by decide)) (fun _ => ?_)
  refine g_iload_1 dX8_readPlain_74 ?_
  refine g_bipush (v := nI 106) dX8_readPlain_75 rfl ?_
  refine g_icmp_neN (tgt := 114) dX8_readPlain_77 (by decide) (by omega) (by omega) (fun _ => ?_) (fun h77 => absurd h77 (by decide))
  refine g_iload_1 dX8_readPlain_114 ?_
  refine g_bipush (v := nI 99) dX8_readPlain_115 rfl ?_
  refine g_icmp_neN (tgt := 130) dX8_readPlain_117 (by decide) (by omega) (by omega) (fun _ => ?_) (fun h117 => absurd h117 (by decide))
  refine g_iload_1 dX8_readPlain_130 ?_
  refine g_bipush (v := nI 104) dX8_readPlain_131 rfl ?_
  refine g_icmp_neN (tgt := 147) dX8_readPlain_133 (by decide) (by omega) (by omega) (fun _ => ?_) (fun h133 => absurd h133 (by decide))
  refine g_iload_1 dX8_readPlain_147 ?_
  refine g_bipush (v := nI 109) dX8_readPlain_148 rfl ?_
  refine g_icmp_neN (tgt := 180) dX8_readPlain_150 (by decide) (by omega) (by omega) (fun _ => ?_) (fun h150 => absurd h150 (by decide))
  exact g_return rfl dX8_readPlain_180 (Nat.le_of_ble_eq_true rfl) (Nat.le_of_ble_eq_true rfl) ⟨rfl, ⟨_, hA1, rfl, rfl, hG, fun k k7 k8 _ => upd3 k7 k8⟩, hO1, rfl⟩
theorem m_plain_e (hA : MAt M b I A) (hl : I 16 = nI len) (hp : I 17 = nI p) (hlen : len ≤ 120) (hp9 : p < 900) (hg : I 18 = bI true) (hG : I 19 = G) (hc : herF A len p = nI 101) : Runs mX8_readPlain [.ref b] M z (RdQ M b I A (p + 1) true G z) := by
  have hao := hA.1
  refine runs_of plX8 rfl (Nat.le_of_ble_eq_true rfl) ?_
  show WP mX8_readPlain 0 [some (.ref b), none, none, none] [] M z 0 0 _
  refine g_aload_0 dX8_readPlain_0 ?_
  refine g_v0_1 dX8_readPlain_1 (vX8_160 rfl) rfl hao (Nat.le_of_ble_eq_true rfl) ⟨rfl, rfl⟩ (Nat.le_of_ble_eq_true rfl) (Nat.le_of_ble_eq_true rfl) (m_here hA hl hp hlen (by omega)) ?_
  rw [show (if p < len then A 12 p else -1) = herF A len p from rfl, hc]
  refine g_istore_1 rfl dX8_readPlain_4 ?_
  refine g_aload_0 dX8_readPlain_5 ?_
  refine g_iload_1 dX8_readPlain_6 ?_
  refine g_bipush (v := nI 115) dX8_readPlain_7 rfl ?_
  refine g_icmp_eqN (tgt := 60) dX8_readPlain_9 (by decide) (by omega) (by omega) (fun h9 => absurd h9 (by decide)) (fun _ => ?_)
  refine g_iload_1 dX8_readPlain_12 ?_
  refine g_bipush (v := nI 106) dX8_readPlain_13 rfl ?_
  refine g_icmp_eqN (tgt := 60) dX8_readPlain_15 (by decide) (by omega) (by omega) (fun h15 => absurd h15 (by decide)) (fun _ => ?_)
  refine g_iload_1 dX8_readPlain_18 ?_
  refine g_bipush (v := nI 108) dX8_readPlain_19 rfl ?_
  refine g_icmp_eqN (tgt := 60) dX8_readPlain_21 (by decide) (by omega) (by omega) (fun h21 => absurd h21 (by decide)) (fun _ => ?_)
  refine g_iload_1 dX8_readPlain_24 ?_
  refine g_bipush (v := nI 114) dX8_readPlain_25 rfl ?_
  refine g_icmp_eqN (tgt := 60) dX8_readPlain_27 (by decide) (by omega) (by omega) (fun h27 => absurd h27 (by decide)) (fun _ => ?_)
  refine g_iload_1 dX8_readPlain_30 ?_
  refine g_bipush (v := nI 99) dX8_readPlain_31 rfl ?_
  refine g_icmp_eqN (tgt := 60) dX8_readPlain_33 (by decide) (by omega) (by omega) (fun h33 => absurd h33 (by decide)) (fun _ => ?_)
  refine g_iload_1 dX8_readPlain_36 ?_
  refine g_bipush (v := nI 104) dX8_readPlain_37 rfl ?_
  refine g_icmp_eqN (tgt := 60) dX8_readPlain_39 (by decide) (by omega) (by omega) (fun h39 => absurd h39 (by decide)) (fun _ => ?_)
  refine g_iload_1 dX8_readPlain_42 ?_
  refine g_bipush (v := nI 120) dX8_readPlain_43 rfl ?_
  refine g_icmp_eqN (tgt := 60) dX8_readPlain_45 (by decide) (by omega) (by omega) (fun h45 => absurd h45 (by decide)) (fun _ => ?_)
  refine g_iload_1 dX8_readPlain_48 ?_
  refine g_bipush (v := nI 101) dX8_readPlain_49 rfl ?_
  refine g_icmp_eqN (tgt := 60) dX8_readPlain_51 (by decide) (by omega) (by omega) (fun _ => ?_) (fun h51 => absurd rfl h51)
  refine g_iconst (v := nI 1) dX8_readPlain_60 rfl ?_
  refine g_goto (tgt := 65) dX8_readPlain_61 (by decide) ?_
  refine g_v1 dX8_readPlain_65 (vX8_164 rfl) rfl hao (Nat.le_of_ble_eq_true rfl) (Nat.le_of_ble_eq_true rfl) (Nat.le_of_ble_eq_true rfl) (m_take (bq := true) hA hp hg) (fun r M2 z2 hq => ?_) (fun E M2 z2 hq => by obtain ⟨hq, -⟩ := hq; cases hq)
  obtain ⟨hr, hA1, hO1, rfl⟩ := hq
  cases hr
  have hA1 : MAt _ b (upd (upd I 18 (bI true)) 17 (nI (p + 1))) A := hA1
  have hao1 := hA1.1
  refine g_iload_1 dX8_readPlain_68 ?_
  refine g_bipush (v := nI 115) dX8_readPlain_69 rfl ?_
  refine g_icmp_eqN (tgt := 80) dX8_readPlain_71 (by decide) (by omega) (by omega) (fun h71 => absurd h71 (by decide)) (fun _ => ?_)
  refine g_iload_1 dX8_readPlain_74 ?_
  refine g_bipush (v := nI 106) dX8_readPlain_75 rfl ?_
  refine g_icmp_neN (tgt := 114) dX8_readPlain_77 (by decide) (by omega) (by omega) (fun _ => ?_) (fun h77 => absurd h77 (by decide))
  refine g_iload_1 dX8_readPlain_114 ?_
  refine g_bipush (v := nI 99) dX8_readPlain_115 rfl ?_
  refine g_icmp_neN (tgt := 130) dX8_readPlain_117 (by decide) (by omega) (by omega) (fun _ => ?_) (fun h117 => absurd h117 (by decide))
  refine g_iload_1 dX8_readPlain_130 ?_
  refine g_bipush (v := nI 104) dX8_readPlain_131 rfl ?_
  refine g_icmp_neN (tgt := 147) dX8_readPlain_133 (by decide) (by omega) (by omega) (fun _ => ?_) (fun h133 => absurd h133 (by decide))
  refine g_iload_1 dX8_readPlain_147 ?_
  refine g_bipush (v := nI 109) dX8_readPlain_148 rfl ?_
  refine g_icmp_neN (tgt := 180) dX8_readPlain_150 (by decide) (by omega) (by omega) (fun _ => ?_) (fun h150 => absurd h150 (by decide))
  exact g_return rfl dX8_readPlain_180 (Nat.le_of_ble_eq_true rfl) (Nat.le_of_ble_eq_true rfl) ⟨rfl, ⟨_, hA1, rfl, rfl, hG, fun k k7 k8 _ => upd3 k7 k8⟩, hO1, rfl⟩
theorem m_plain_c (hA : MAt M b I A) (hl : I 16 = nI len) (hp : I 17 = nI p) (hlen : len ≤ 120) (hp9 : p < 900) (hg : I 18 = bI true) (hG : I 19 = G) (hc : herF A len p = nI 99) : Runs mX8_readPlain [.ref b] M z (RdQ M b I A (takP (p + 1) (digB A len (p + 1) 0 4)) (digB A len (p + 1) 0 4) G z) := by
  have hao := hA.1
  refine runs_of plX8 rfl (Nat.le_of_ble_eq_true rfl) ?_
  show WP mX8_readPlain 0 [some (.ref b), none, none, none] [] M z 0 0 _
  refine g_aload_0 dX8_readPlain_0 ?_
  refine g_v0_1 dX8_readPlain_1 (vX8_160 rfl) rfl hao (Nat.le_of_ble_eq_true rfl) ⟨rfl, rfl⟩ (Nat.le_of_ble_eq_true rfl) (Nat.le_of_ble_eq_true rfl) (m_here hA hl hp hlen (by omega)) ?_
  rw [show (if p < len then A 12 p else -1) = herF A len p from rfl, hc]
  refine g_istore_1 rfl dX8_readPlain_4 ?_
  refine g_aload_0 dX8_readPlain_5 ?_
  refine g_iload_1 dX8_readPlain_6 ?_
  refine g_bipush (v := nI 115) dX8_readPlain_7 rfl ?_
  refine g_icmp_eqN (tgt := 60) dX8_readPlain_9 (by decide) (by omega) (by omega) (fun h9 => absurd h9 (by decide)) (fun _ => ?_)
  refine g_iload_1 dX8_readPlain_12 ?_
  refine g_bipush (v := nI 106) dX8_readPlain_13 rfl ?_
  refine g_icmp_eqN (tgt := 60) dX8_readPlain_15 (by decide) (by omega) (by omega) (fun h15 => absurd h15 (by decide)) (fun _ => ?_)
  refine g_iload_1 dX8_readPlain_18 ?_
  refine g_bipush (v := nI 108) dX8_readPlain_19 rfl ?_
  refine g_icmp_eqN (tgt := 60) dX8_readPlain_21 (by decide) (by omega) (by omega) (fun h21 => absurd h21 (by decide)) (fun _ => ?_)
  refine g_iload_1 dX8_readPlain_24 ?_
  refine g_bipush (v := nI 114) dX8_readPlain_25 rfl ?_
  refine g_icmp_eqN (tgt := 60) dX8_readPlain_27 (by decide) (by omega) (by omega) (fun h27 => absurd h27 (by decide)) (fun _ => ?_)
  refine g_iload_1 dX8_readPlain_30 ?_
  refine g_bipush (v := nI 99) dX8_readPlain_31 rfl ?_
  refine g_icmp_eqN (tgt := 60) dX8_readPlain_33 (by decide) (by omega) (by omega) (fun _ => ?_) (fun h33 => absurd rfl h33)
  refine g_iconst (v := nI 1) dX8_readPlain_60 rfl ?_
  refine g_goto (tgt := 65) dX8_readPlain_61 (by decide) ?_
  refine g_v1 dX8_readPlain_65 (vX8_164 rfl) rfl hao (Nat.le_of_ble_eq_true rfl) (Nat.le_of_ble_eq_true rfl) (Nat.le_of_ble_eq_true rfl) (m_take (bq := true) hA hp hg) (fun r M2 z2 hq => ?_) (fun E M2 z2 hq => by obtain ⟨hq, -⟩ := hq; cases hq)
  obtain ⟨hr, hA1, hO1, rfl⟩ := hq
  cases hr
  have hA1 : MAt _ b (upd (upd I 18 (bI true)) 17 (nI (p + 1))) A := hA1
  have hao1 := hA1.1
  refine g_iload_1 dX8_readPlain_68 ?_
  refine g_bipush (v := nI 115) dX8_readPlain_69 rfl ?_
  refine g_icmp_eqN (tgt := 80) dX8_readPlain_71 (by decide) (by omega) (by omega) (fun h71 => absurd h71 (by decide)) (fun _ => ?_)
  refine g_iload_1 dX8_readPlain_74 ?_
  refine g_bipush (v := nI 106) dX8_readPlain_75 rfl ?_
  refine g_icmp_neN (tgt := 114) dX8_readPlain_77 (by decide) (by omega) (by omega) (fun _ => ?_) (fun h77 => absurd h77 (by decide))
  refine g_iload_1 dX8_readPlain_114 ?_
  refine g_bipush (v := nI 99) dX8_readPlain_115 rfl ?_
  refine g_icmp_neN (tgt := 130) dX8_readPlain_117 (by decide) (by omega) (by omega) (fun h117 => absurd rfl h117) (fun _ => ?_)
  refine g_aload_0 dX8_readPlain_120 ?_
  refine g_iconst (v := nI 0) dX8_readPlain_121 rfl ?_
  refine g_iconst (v := nI 4) dX8_readPlain_122 rfl ?_
  refine g_v2 dX8_readPlain_123 (vX8_167 rfl) rfl hao1 (Nat.le_of_ble_eq_true rfl) (Nat.le_of_ble_eq_true rfl) (Nat.le_of_ble_eq_true rfl) (m_digit (lo := 0) (hi := 4) (len := len) (p := p + 1) (gd := true) hA1 hl rfl hlen (by omega) rfl (by decide) (by decide)) (fun r M2 z2 hq => ?_) (fun E M2 z2 hq => by obtain ⟨hq, -⟩ := hq; cases hq)
  obtain ⟨hr, hA2, hO2, rfl⟩ := hq
  cases hr
  refine g_istore_2 rfl dX8_readPlain_126 ?_
  refine g_goto (tgt := 180) dX8_readPlain_127 (by decide) ?_
  exact g_return rfl dX8_readPlain_180 (Nat.le_of_ble_eq_true rfl) (Nat.le_of_ble_eq_true rfl) ⟨rfl, ⟨_, hA2, rfl, rfl, hG, fun k k7 k8 _ => (upd3 k7 k8).trans (upd3 k7 k8)⟩, hO1.tr hO2, rfl⟩
theorem m_plain_h (hA : MAt M b I A) (hl : I 16 = nI len) (hp : I 17 = nI p) (hlen : len ≤ 120) (hp9 : p < 900) (hg : I 18 = bI true) (hG : I 19 = G) (hc : herF A len p = nI 104) : Runs mX8_readPlain [.ref b] M z (RdQ M b I A (takP (p + 1) (digB A len (p + 1) 1 9)) (digB A len (p + 1) 1 9) G z) := by
  have hao := hA.1
  refine runs_of plX8 rfl (Nat.le_of_ble_eq_true rfl) ?_
  show WP mX8_readPlain 0 [some (.ref b), none, none, none] [] M z 0 0 _
  refine g_aload_0 dX8_readPlain_0 ?_
  refine g_v0_1 dX8_readPlain_1 (vX8_160 rfl) rfl hao (Nat.le_of_ble_eq_true rfl) ⟨rfl, rfl⟩ (Nat.le_of_ble_eq_true rfl) (Nat.le_of_ble_eq_true rfl) (m_here hA hl hp hlen (by omega)) ?_
  rw [show (if p < len then A 12 p else -1) = herF A len p from rfl, hc]
  refine g_istore_1 rfl dX8_readPlain_4 ?_
  refine g_aload_0 dX8_readPlain_5 ?_
  refine g_iload_1 dX8_readPlain_6 ?_
  refine g_bipush (v := nI 115) dX8_readPlain_7 rfl ?_
  refine g_icmp_eqN (tgt := 60) dX8_readPlain_9 (by decide) (by omega) (by omega) (fun h9 => absurd h9 (by decide)) (fun _ => ?_)
  refine g_iload_1 dX8_readPlain_12 ?_
  refine g_bipush (v := nI 106) dX8_readPlain_13 rfl ?_
  refine g_icmp_eqN (tgt := 60) dX8_readPlain_15 (by decide) (by omega) (by omega) (fun h15 => absurd h15 (by decide)) (fun _ => ?_)
  refine g_iload_1 dX8_readPlain_18 ?_
  refine g_bipush (v := nI 108) dX8_readPlain_19 rfl ?_
  refine g_icmp_eqN (tgt := 60) dX8_readPlain_21 (by decide) (by omega) (by omega) (fun h21 => absurd h21 (by decide)) (fun _ => ?_)
  refine g_iload_1 dX8_readPlain_24 ?_
  refine g_bipush (v := nI 114) dX8_readPlain_25 rfl ?_
  refine g_icmp_eqN (tgt := 60) dX8_readPlain_27 (by decide) (by omega) (by omega) (fun h27 => absurd h27 (by decide)) (fun _ => ?_)
  refine g_iload_1 dX8_readPlain_30 ?_
  refine g_bipush (v := nI 99) dX8_readPlain_31 rfl ?_
  refine g_icmp_eqN (tgt := 60) dX8_readPlain_33 (by decide) (by omega) (by omega) (fun h33 => absurd h33 (by decide)) (fun _ => ?_)
  refine g_iload_1 dX8_readPlain_36 ?_
  refine g_bipush (v := nI 104) dX8_readPlain_37 rfl ?_
  refine g_icmp_eqN (tgt := 60) dX8_readPlain_39 (by decide) (by omega) (by omega) (fun _ => ?_) (fun h39 => absurd rfl h39)
  refine g_iconst (v := nI 1) dX8_readPlain_60 rfl ?_
  refine g_goto (tgt := 65) dX8_readPlain_61 (by decide) ?_
  refine g_v1 dX8_readPlain_65 (vX8_164 rfl) rfl hao (Nat.le_of_ble_eq_true rfl) (Nat.le_of_ble_eq_true rfl) (Nat.le_of_ble_eq_true rfl) (m_take (bq := true) hA hp hg) (fun r M2 z2 hq => ?_) (fun E M2 z2 hq => by obtain ⟨hq, -⟩ := hq; cases hq)
  obtain ⟨hr, hA1, hO1, rfl⟩ := hq
  cases hr
  have hA1 : MAt _ b (upd (upd I 18 (bI true)) 17 (nI (p + 1))) A := hA1
  have hao1 := hA1.1
  refine g_iload_1 dX8_readPlain_68 ?_
  refine g_bipush (v := nI 115) dX8_readPlain_69 rfl ?_
  refine g_icmp_eqN (tgt := 80) dX8_readPlain_71 (by decide) (by omega) (by omega) (fun h71 => absurd h71 (by decide)) (fun _ => ?_)
  refine g_iload_1 dX8_readPlain_74 ?_
  refine g_bipush (v := nI 106) dX8_readPlain_75 rfl ?_
  refine g_icmp_neN (tgt := 114) dX8_readPlain_77 (by decide) (by omega) (by omega) (fun _ => ?_) (fun h77 => absurd h77 (by decide))
  refine g_iload_1 dX8_readPlain_114 ?_
  refine g_bipush (v := nI 99) dX8_readPlain_115 rfl ?_
  refine g_icmp_neN (tgt := 130) dX8_readPlain_117 (by decide) (by omega) (by omega) (fun _ => ?_) (fun h117 => absurd h117 (by decide))
  refine g_iload_1 dX8_readPlain_130 ?_
  refine g_bipush (v := nI 104) dX8_readPlain_131 rfl ?_
  refine g_icmp_neN (tgt := 147) dX8_readPlain_133 (by decide) (by omega) (by omega) (fun h133 => absurd rfl h133) (fun _ => ?_)
  refine g_aload_0 dX8_readPlain_136 ?_
  refine g_iconst (v := nI 1) dX8_readPlain_137 rfl ?_
  refine g_bipush (v := nI 9) dX8_readPlain_138 rfl ?_
  refine g_v2 dX8_readPlain_140 (vX8_167 rfl) rfl hao1 (Nat.le_of_ble_eq_true rfl) (Nat.le_of_ble_eq_true rfl) (Nat.le_of_ble_eq_true rfl) (m_digit (lo := 1) (hi := 9) (len := len) (p := p + 1) (gd := true) hA1 hl rfl hlen (by omega) rfl (by decide) (by decide)) (fun r M2 z2 hq => ?_) (fun E M2 z2 hq => by obtain ⟨hq, -⟩ := hq; cases hq)
  obtain ⟨hr, hA2, hO2, rfl⟩ := hq
  cases hr
  refine g_istore_2 rfl dX8_readPlain_143 ?_
  refine g_goto (tgt := 180) dX8_readPlain_144 (by decide) ?_
  exact g_return rfl dX8_readPlain_180 (Nat.le_of_ble_eq_true rfl) (Nat.le_of_ble_eq_true rfl) ⟨rfl, ⟨_, hA2, rfl, rfl, hG, fun k k7 k8 _ => (upd3 k7 k8).trans (upd3 k7 k8)⟩, hO1.tr hO2, rfl⟩
theorem m_plain_no (hA : MAt M b I A) (hl : I 16 = nI len) (hp : I 17 = nI p) (hlen : len ≤ 120) (hp9 : p < 900) (hg : I 18 = bI true) (hG : I 19 = G) (e115 : ¬ herF A len p = nI 115) (e106 : ¬ herF A len p = nI 106) (e108 : ¬ herF A len p = nI 108) (e114 : ¬ herF A len p = nI 114) (e99 : ¬ herF A len p = nI 99) (e104 : ¬ herF A len p = nI 104) (e120 : ¬ herF A len p = nI 120) (e101 : ¬ herF A len p = nI 101) (e109 : ¬ herF A len p = nI 109) : Runs mX8_readPlain [.ref b] M z (RdQ M b I A p false G z) := by
  have hao := hA.1
  refine runs_of plX8 rfl (Nat.le_of_ble_eq_true rfl) ?_
  show WP mX8_readPlain 0 [some (.ref b), none, none, none] [] M z 0 0 _
  refine g_aload_0 dX8_readPlain_0 ?_
  refine g_v0_1 dX8_readPlain_1 (vX8_160 rfl) rfl hao (Nat.le_of_ble_eq_true rfl) ⟨rfl, rfl⟩ (Nat.le_of_ble_eq_true rfl) (Nat.le_of_ble_eq_true rfl) (m_here hA hl hp hlen (by omega)) ?_
  rw [show (if p < len then A 12 p else -1) = herF A len p from rfl]
  refine g_istore_1 rfl dX8_readPlain_4 ?_
  refine g_aload_0 dX8_readPlain_5 ?_
  refine g_iload_1 dX8_readPlain_6 ?_
  refine g_bipush (v := nI 115) dX8_readPlain_7 rfl ?_
  refine g_icmp_eq (tgt := 60) dX8_readPlain_9 (by decide)  (fun h9 => absurd h9 e115) (fun _ => ?_)
  refine g_iload_1 dX8_readPlain_12 ?_
  refine g_bipush (v := nI 106) dX8_readPlain_13 rfl ?_
  refine g_icmp_eq (tgt := 60) dX8_readPlain_15 (by decide)  (fun h15 => absurd h15 e106) (fun _ => ?_)
  refine g_iload_1 dX8_readPlain_18 ?_
  refine g_bipush (v := nI 108) dX8_readPlain_19 rfl ?_
  refine g_icmp_eq (tgt := 60) dX8_readPlain_21 (by decide)  (fun h21 => absurd h21 e108) (fun _ => ?_)
  refine g_iload_1 dX8_readPlain_24 ?_
  refine g_bipush (v := nI 114) dX8_readPlain_25 rfl ?_
  refine g_icmp_eq (tgt := 60) dX8_readPlain_27 (by decide)  (fun h27 => absurd h27 e114) (fun _ => ?_)
  refine g_iload_1 dX8_readPlain_30 ?_
  refine g_bipush (v := nI 99) dX8_readPlain_31 rfl ?_
  refine g_icmp_eq (tgt := 60) dX8_readPlain_33 (by decide)  (fun h33 => absurd h33 e99) (fun _ => ?_)
  refine g_iload_1 dX8_readPlain_36 ?_
  refine g_bipush (v := nI 104) dX8_readPlain_37 rfl ?_
  refine g_icmp_eq (tgt := 60) dX8_readPlain_39 (by decide)  (fun h39 => absurd h39 e104) (fun _ => ?_)
  refine g_iload_1 dX8_readPlain_42 ?_
  refine g_bipush (v := nI 120) dX8_readPlain_43 rfl ?_
  refine g_icmp_eq (tgt := 60) dX8_readPlain_45 (by decide)  (fun h45 => absurd h45 e120) (fun _ => ?_)
  refine g_iload_1 dX8_readPlain_48 ?_
  refine g_bipush (v := nI 101) dX8_readPlain_49 rfl ?_
  refine g_icmp_eq (tgt := 60) dX8_readPlain_51 (by decide)  (fun h51 => absurd h51 e101) (fun _ => ?_)
  refine g_iload_1 dX8_readPlain_54 ?_
  refine g_bipush (v := nI 109) dX8_readPlain_55 rfl ?_
  refine g_icmp_ne (tgt := 64) dX8_readPlain_57 (by decide)  (fun _ => ?_) (fun h57 => absurd h57 e109)
  refine g_iconst (v := nI 0) dX8_readPlain_64 rfl ?_
  refine g_v1 dX8_readPlain_65 (vX8_164 rfl) rfl hao (Nat.le_of_ble_eq_true rfl) (Nat.le_of_ble_eq_true rfl) (Nat.le_of_ble_eq_true rfl) (m_take (bq := false) hA hp hg) (fun r M2 z2 hq => ?_) (fun E M2 z2 hq => by obtain ⟨hq, -⟩ := hq; cases hq)
  obtain ⟨hr, hA1, hO1, rfl⟩ := hq
  cases hr
  have hA1 : MAt _ b (upd (upd I 18 (bI false)) 17 (nI p)) A := hA1
  have hao1 := hA1.1
  refine g_iload_1 dX8_readPlain_68 ?_
  refine g_bipush (v := nI 115) dX8_readPlain_69 rfl ?_
  refine g_icmp_eq (tgt := 80) dX8_readPlain_71 (by decide)  (fun h71 => absurd h71 e115) (fun _ => ?_)
  refine g_iload_1 dX8_readPlain_74 ?_
  refine g_bipush (v := nI 106) dX8_readPlain_75 rfl ?_
  refine g_icmp_ne (tgt := 114) dX8_readPlain_77 (by decide)  (fun _ => ?_) (fun h77 => absurd h77 e106)
  refine g_iload_1 dX8_readPlain_114 ?_
  refine g_bipush (v := nI 99) dX8_readPlain_115 rfl ?_
  refine g_icmp_ne (tgt := 130) dX8_readPlain_117 (by decide)  (fun _ => ?_) (fun h117 => absurd h117 e99)
  refine g_iload_1 dX8_readPlain_130 ?_
  refine g_bipush (v := nI 104) dX8_readPlain_131 rfl ?_
  refine g_icmp_ne (tgt := 147) dX8_readPlain_133 (by decide)  (fun _ => ?_) (fun h133 => absurd h133 e104)
  refine g_iload_1 dX8_readPlain_147 ?_
  refine g_bipush (v := nI 109) dX8_readPlain_148 rfl ?_
  refine g_icmp_ne (tgt := 180) dX8_readPlain_150 (by decide)  (fun _ => ?_) (fun h150 => absurd h150 e109)
  exact g_return rfl dX8_readPlain_180 (Nat.le_of_ble_eq_true rfl) (Nat.le_of_ble_eq_true rfl) ⟨rfl, ⟨_, hA1, rfl, rfl, hG, fun k k7 k8 _ => upd3 k7 k8⟩, hO1, rfl⟩
/-- the stitches' second digit -/
def sjU (A : Nat → Row) (len p : Nat) : Bool := (digB A len (p + 1) 0 1) && digB A len (takP (p + 1) (digB A len (p + 1) 0 1)) (if (if (digB A len (p + 1) 0 1) = true then herF A len (p + 1) - nI 48 else nI 0) = 0 then 1 else 0) (if (if (digB A len (p + 1) 0 1) = true then herF A len (p + 1) - nI 48 else nI 0) = 0 then 9 else 2)
theorem takP_lt {t : Bool} (h : p < 900) : takP (p + 1) t < 1000 := by unfold takP; split <;> omega
theorem m_plain_s (hA : MAt M b I A) (hl : I 16 = nI len) (hp : I 17 = nI p) (hlen : len ≤ 120) (hp9 : p < 900) (hg : I 18 = bI true) (hG : I 19 = G) (hc : herF A len p = nI 115) : Runs mX8_readPlain [.ref b] M z (RdQ M b I A (takP (takP (p + 1) (digB A len (p + 1) 0 1)) (sjU A len p)) (sjU A len p) G z) := by
  have hao := hA.1
  refine runs_of plX8 rfl (Nat.le_of_ble_eq_true rfl) ?_
  show WP mX8_readPlain 0 [some (.ref b), none, none, none] [] M z 0 0 _
  refine g_aload_0 dX8_readPlain_0 ?_
  refine g_v0_1 dX8_readPlain_1 (vX8_160 rfl) rfl hao (Nat.le_of_ble_eq_true rfl) ⟨rfl, rfl⟩ (Nat.le_of_ble_eq_true rfl) (Nat.le_of_ble_eq_true rfl) (m_here hA hl hp hlen (by omega)) ?_
  rw [show (if p < len then A 12 p else -1) = herF A len p from rfl, hc]
  refine g_istore_1 rfl dX8_readPlain_4 ?_
  refine g_aload_0 dX8_readPlain_5 ?_
  refine g_iload_1 dX8_readPlain_6 ?_
  refine g_bipush (v := nI 115) dX8_readPlain_7 rfl ?_
  refine g_icmp_eqN (tgt := 60) dX8_readPlain_9 (by decide) (by omega) (by omega) (fun _ => ?_) (fun h9 => absurd rfl h9)
  refine g_iconst (v := nI 1) dX8_readPlain_60 rfl ?_
  refine g_goto (tgt := 65) dX8_readPlain_61 (by decide) ?_
  refine g_v1 dX8_readPlain_65 (vX8_164 rfl) rfl hao (Nat.le_of_ble_eq_true rfl) (Nat.le_of_ble_eq_true rfl) (Nat.le_of_ble_eq_true rfl) (m_take (bq := true) hA hp hg) (fun r M2 z2 hq => ?_) (fun E M2 z2 hq => by obtain ⟨hq, -⟩ := hq; cases hq)
  obtain ⟨hr, hA1, hO1, rfl⟩ := hq
  cases hr
  have hA1 : MAt _ b (upd (upd I 18 (bI true)) 17 (nI (p + 1))) A := hA1
  have hao1 := hA1.1
  refine g_iload_1 dX8_readPlain_68 ?_
  refine g_bipush (v := nI 115) dX8_readPlain_69 rfl ?_
  refine g_icmp_eqN (tgt := 80) dX8_readPlain_71 (by decide) (by omega) (by omega) (fun _ => ?_) (fun h71 => absurd rfl h71)
  refine g_aload_0 dX8_readPlain_80 ?_
  refine g_iconst (v := nI 0) dX8_readPlain_81 rfl ?_
  refine g_iconst (v := nI 1) dX8_readPlain_82 rfl ?_
  refine g_v2 dX8_readPlain_83 (vX8_167 rfl) rfl hao1 (Nat.le_of_ble_eq_true rfl) (Nat.le_of_ble_eq_true rfl) (Nat.le_of_ble_eq_true rfl) (m_digit (lo := 0) (hi := 1) (len := len) (p := p + 1) (gd := true) hA1 hl rfl hlen (by omega) rfl (by decide) (by decide)) (fun r M2 z2 hq => ?_) (fun E M2 z2 hq => by obtain ⟨hq, -⟩ := hq; cases hq)
  obtain ⟨hr, hA2, hO2, rfl⟩ := hq
  cases hr
  have hao2 := hA2.1
  refine g_istore_2 rfl dX8_readPlain_86 ?_
  refine g_aload_0 dX8_readPlain_87 ?_
  refine g_iload_2 dX8_readPlain_88 ?_
  refine g_if_ne (tgt := 96) dX8_readPlain_89 (by decide)  (fun h89 => ?_) (fun h89 => ?_)
  · refine g_iconst (v := nI 0) dX8_readPlain_96 rfl ?_
    refine g_iload_2 dX8_readPlain_97 ?_
    refine g_if_ne (tgt := 106) dX8_readPlain_98 (by decide)  (fun h98 => ?_) (fun h98 => ?_)
    · refine g_iconst (v := nI 2) dX8_readPlain_106 rfl ?_
      refine g_v2 dX8_readPlain_107 (vX8_167 rfl) rfl hao2 (Nat.le_of_ble_eq_true rfl) (Nat.le_of_ble_eq_true rfl) (Nat.le_of_ble_eq_true rfl) (m_digit (len := len) (p := takP (p + 1) (digB A len (p + 1) 0 1)) (gd := (digB A len (p + 1) 0 1)) hA2 hl rfl hlen (takP_lt hp9) rfl (by decide) (by decide)) (fun r M2 z2 hq => ?_) (fun E M2 z2 hq => by obtain ⟨hq, -⟩ := hq; cases hq)
      obtain ⟨hr, hA3, hO3, rfl⟩ := hq
      cases hr
      refine g_istore_3 rfl dX8_readPlain_110 ?_
      refine g_goto (tgt := 180) dX8_readPlain_111 (by decide) ?_
      exact g_return rfl dX8_readPlain_180 (Nat.le_of_ble_eq_true rfl) (Nat.le_of_ble_eq_true rfl) (by first | exact absurd h98 h89 | exact absurd h89 h98 | (unfold sjU; rw [if_pos (show (if (digB A len (p + 1) 0 1) = true then herF A len (p + 1) - nI 48 else nI 0) = 0 from h89), if_pos (show (if (digB A len (p + 1) 0 1) = true then herF A len (p + 1) - nI 48 else nI 0) = 0 from h89)]; exact ⟨rfl, ⟨_, hA3, rfl, rfl, hG, fun k k7 k8 _ => ((upd3 k7 k8).trans (upd3 k7 k8)).trans (upd3 k7 k8)⟩, (hO1.tr hO2).tr hO3, rfl⟩) | (unfold sjU; rw [if_neg (show ¬ (if (digB A len (p + 1) 0 1) = true then herF A len (p + 1) - nI 48 else nI 0) = 0 from h89), if_neg (show ¬ (if (digB A len (p + 1) 0 1) = true then herF A len (p + 1) - nI 48 else nI 0) = 0 from h89)]; exact ⟨rfl, ⟨_, hA3, rfl, rfl, hG, fun k k7 k8 _ => ((upd3 k7 k8).trans (upd3 k7 k8)).trans (upd3 k7 k8)⟩, (hO1.tr hO2).tr hO3, rfl⟩))
    · refine g_bipush (v := nI 9) dX8_readPlain_101 rfl ?_
      refine g_goto (tgt := 107) dX8_readPlain_103 (by decide) ?_
      refine g_v2 dX8_readPlain_107 (vX8_167 rfl) rfl hao2 (Nat.le_of_ble_eq_true rfl) (Nat.le_of_ble_eq_true rfl) (Nat.le_of_ble_eq_true rfl) (m_digit (len := len) (p := takP (p + 1) (digB A len (p + 1) 0 1)) (gd := (digB A len (p + 1) 0 1)) hA2 hl rfl hlen (takP_lt hp9) rfl (by decide) (by decide)) (fun r M2 z2 hq => ?_) (fun E M2 z2 hq => by obtain ⟨hq, -⟩ := hq; cases hq)
      obtain ⟨hr, hA3, hO3, rfl⟩ := hq
      cases hr
      refine g_istore_3 rfl dX8_readPlain_110 ?_
      refine g_goto (tgt := 180) dX8_readPlain_111 (by decide) ?_
      exact g_return rfl dX8_readPlain_180 (Nat.le_of_ble_eq_true rfl) (Nat.le_of_ble_eq_true rfl) (by first | exact absurd h98 h89 | exact absurd h89 h98 | (unfold sjU; rw [if_pos (show (if (digB A len (p + 1) 0 1) = true then herF A len (p + 1) - nI 48 else nI 0) = 0 from h89), if_pos (show (if (digB A len (p + 1) 0 1) = true then herF A len (p + 1) - nI 48 else nI 0) = 0 from h89)]; exact ⟨rfl, ⟨_, hA3, rfl, rfl, hG, fun k k7 k8 _ => ((upd3 k7 k8).trans (upd3 k7 k8)).trans (upd3 k7 k8)⟩, (hO1.tr hO2).tr hO3, rfl⟩) | (unfold sjU; rw [if_neg (show ¬ (if (digB A len (p + 1) 0 1) = true then herF A len (p + 1) - nI 48 else nI 0) = 0 from h89), if_neg (show ¬ (if (digB A len (p + 1) 0 1) = true then herF A len (p + 1) - nI 48 else nI 0) = 0 from h89)]; exact ⟨rfl, ⟨_, hA3, rfl, rfl, hG, fun k k7 k8 _ => ((upd3 k7 k8).trans (upd3 k7 k8)).trans (upd3 k7 k8)⟩, (hO1.tr hO2).tr hO3, rfl⟩))
  · refine g_iconst (v := nI 1) dX8_readPlain_92 rfl ?_
    refine g_goto (tgt := 97) dX8_readPlain_93 (by decide) ?_
    refine g_iload_2 dX8_readPlain_97 ?_
    refine g_if_ne (tgt := 106) dX8_readPlain_98 (by decide)  (fun h98 => ?_) (fun h98 => ?_)
    · refine g_iconst (v := nI 2) dX8_readPlain_106 rfl ?_
      refine g_v2 dX8_readPlain_107 (vX8_167 rfl) rfl hao2 (Nat.le_of_ble_eq_true rfl) (Nat.le_of_ble_eq_true rfl) (Nat.le_of_ble_eq_true rfl) (m_digit (len := len) (p := takP (p + 1) (digB A len (p + 1) 0 1)) (gd := (digB A len (p + 1) 0 1)) hA2 hl rfl hlen (takP_lt hp9) rfl (by decide) (by decide)) (fun r M2 z2 hq => ?_) (fun E M2 z2 hq => by obtain ⟨hq, -⟩ := hq; cases hq)
      obtain ⟨hr, hA3, hO3, rfl⟩ := hq
      cases hr
      refine g_istore_3 rfl dX8_readPlain_110 ?_
      refine g_goto (tgt := 180) dX8_readPlain_111 (by decide) ?_
      exact g_return rfl dX8_readPlain_180 (Nat.le_of_ble_eq_true rfl) (Nat.le_of_ble_eq_true rfl) (by first | exact absurd h98 h89 | exact absurd h89 h98 | (unfold sjU; rw [if_pos (show (if (digB A len (p + 1) 0 1) = true then herF A len (p + 1) - nI 48 else nI 0) = 0 from h89), if_pos (show (if (digB A len (p + 1) 0 1) = true then herF A len (p + 1) - nI 48 else nI 0) = 0 from h89)]; exact ⟨rfl, ⟨_, hA3, rfl, rfl, hG, fun k k7 k8 _ => ((upd3 k7 k8).trans (upd3 k7 k8)).trans (upd3 k7 k8)⟩, (hO1.tr hO2).tr hO3, rfl⟩) | (unfold sjU; rw [if_neg (show ¬ (if (digB A len (p + 1) 0 1) = true then herF A len (p + 1) - nI 48 else nI 0) = 0 from h89), if_neg (show ¬ (if (digB A len (p + 1) 0 1) = true then herF A len (p + 1) - nI 48 else nI 0) = 0 from h89)]; exact ⟨rfl, ⟨_, hA3, rfl, rfl, hG, fun k k7 k8 _ => ((upd3 k7 k8).trans (upd3 k7 k8)).trans (upd3 k7 k8)⟩, (hO1.tr hO2).tr hO3, rfl⟩))
    · refine g_bipush (v := nI 9) dX8_readPlain_101 rfl ?_
      refine g_goto (tgt := 107) dX8_readPlain_103 (by decide) ?_
      refine g_v2 dX8_readPlain_107 (vX8_167 rfl) rfl hao2 (Nat.le_of_ble_eq_true rfl) (Nat.le_of_ble_eq_true rfl) (Nat.le_of_ble_eq_true rfl) (m_digit (len := len) (p := takP (p + 1) (digB A len (p + 1) 0 1)) (gd := (digB A len (p + 1) 0 1)) hA2 hl rfl hlen (takP_lt hp9) rfl (by decide) (by decide)) (fun r M2 z2 hq => ?_) (fun E M2 z2 hq => by obtain ⟨hq, -⟩ := hq; cases hq)
      obtain ⟨hr, hA3, hO3, rfl⟩ := hq
      cases hr
      refine g_istore_3 rfl dX8_readPlain_110 ?_
      refine g_goto (tgt := 180) dX8_readPlain_111 (by decide) ?_
      exact g_return rfl dX8_readPlain_180 (Nat.le_of_ble_eq_true rfl) (Nat.le_of_ble_eq_true rfl) (by first | exact absurd h98 h89 | exact absurd h89 h98 | (unfold sjU; rw [if_pos (show (if (digB A len (p + 1) 0 1) = true then herF A len (p + 1) - nI 48 else nI 0) = 0 from h89), if_pos (show (if (digB A len (p + 1) 0 1) = true then herF A len (p + 1) - nI 48 else nI 0) = 0 from h89)]; exact ⟨rfl, ⟨_, hA3, rfl, rfl, hG, fun k k7 k8 _ => ((upd3 k7 k8).trans (upd3 k7 k8)).trans (upd3 k7 k8)⟩, (hO1.tr hO2).tr hO3, rfl⟩) | (unfold sjU; rw [if_neg (show ¬ (if (digB A len (p + 1) 0 1) = true then herF A len (p + 1) - nI 48 else nI 0) = 0 from h89), if_neg (show ¬ (if (digB A len (p + 1) 0 1) = true then herF A len (p + 1) - nI 48 else nI 0) = 0 from h89)]; exact ⟨rfl, ⟨_, hA3, rfl, rfl, hG, fun k k7 k8 _ => ((upd3 k7 k8).trans (upd3 k7 k8)).trans (upd3 k7 k8)⟩, (hO1.tr hO2).tr hO3, rfl⟩))
theorem m_plain_j (hA : MAt M b I A) (hl : I 16 = nI len) (hp : I 17 = nI p) (hlen : len ≤ 120) (hp9 : p < 900) (hg : I 18 = bI true) (hG : I 19 = G) (hc : herF A len p = nI 106) : Runs mX8_readPlain [.ref b] M z (RdQ M b I A (takP (takP (p + 1) (digB A len (p + 1) 0 1)) (sjU A len p)) (sjU A len p) G z) := by
  have hao := hA.1
  refine runs_of plX8 rfl (Nat.le_of_ble_eq_true rfl) ?_
  show WP mX8_readPlain 0 [some (.ref b), none, none, none] [] M z 0 0 _
  refine g_aload_0 dX8_readPlain_0 ?_
  refine g_v0_1 dX8_readPlain_1 (vX8_160 rfl) rfl hao (Nat.le_of_ble_eq_true rfl) ⟨rfl, rfl⟩ (Nat.le_of_ble_eq_true rfl) (Nat.le_of_ble_eq_true rfl) (m_here hA hl hp hlen (by omega)) ?_
  rw [show (if p < len then A 12 p else -1) = herF A len p from rfl, hc]
  refine g_istore_1 rfl dX8_readPlain_4 ?_
  refine g_aload_0 dX8_readPlain_5 ?_
  refine g_iload_1 dX8_readPlain_6 ?_
  refine g_bipush (v := nI 115) dX8_readPlain_7 rfl ?_
  refine g_icmp_eqN (tgt := 60) dX8_readPlain_9 (by decide) (by omega) (by omega) (fun h9 => absurd h9 (by decide)) (fun _ => ?_)
  refine g_iload_1 dX8_readPlain_12 ?_
  refine g_bipush (v := nI 106) dX8_readPlain_13 rfl ?_
  refine g_icmp_eqN (tgt := 60) dX8_readPlain_15 (by decide) (by omega) (by omega) (fun _ => ?_) (fun h15 => absurd rfl h15)
  refine g_iconst (v := nI 1) dX8_readPlain_60 rfl ?_
  refine g_goto (tgt := 65) dX8_readPlain_61 (by decide) ?_
  refine g_v1 dX8_readPlain_65 (vX8_164 rfl) rfl hao (Nat.le_of_ble_eq_true rfl) (Nat.le_of_ble_eq_true rfl) (Nat.le_of_ble_eq_true rfl) (m_take (bq := true) hA hp hg) (fun r M2 z2 hq => ?_) (fun E M2 z2 hq => by obtain ⟨hq, -⟩ := hq; cases hq)
  obtain ⟨hr, hA1, hO1, rfl⟩ := hq
  cases hr
  have hA1 : MAt _ b (upd (upd I 18 (bI true)) 17 (nI (p + 1))) A := hA1
  have hao1 := hA1.1
  refine g_iload_1 dX8_readPlain_68 ?_
  refine g_bipush (v := nI 115) dX8_readPlain_69 rfl ?_
  refine g_icmp_eqN (tgt := 80) dX8_readPlain_71 (by decide) (by omega) (by omega) (fun h71 => absurd h71 (by decide)) (fun _ => ?_)
  refine g_iload_1 dX8_readPlain_74 ?_
  refine g_bipush (v := nI 106) dX8_readPlain_75 rfl ?_
  refine g_icmp_neN (tgt := 114) dX8_readPlain_77 (by decide) (by omega) (by omega) (fun h77 => absurd rfl h77) (fun _ => ?_)
  refine g_aload_0 dX8_readPlain_80 ?_
  refine g_iconst (v := nI 0) dX8_readPlain_81 rfl ?_
  refine g_iconst (v := nI 1) dX8_readPlain_82 rfl ?_
  refine g_v2 dX8_readPlain_83 (vX8_167 rfl) rfl hao1 (Nat.le_of_ble_eq_true rfl) (Nat.le_of_ble_eq_true rfl) (Nat.le_of_ble_eq_true rfl) (m_digit (lo := 0) (hi := 1) (len := len) (p := p + 1) (gd := true) hA1 hl rfl hlen (by omega) rfl (by decide) (by decide)) (fun r M2 z2 hq => ?_) (fun E M2 z2 hq => by obtain ⟨hq, -⟩ := hq; cases hq)
  obtain ⟨hr, hA2, hO2, rfl⟩ := hq
  cases hr
  have hao2 := hA2.1
  refine g_istore_2 rfl dX8_readPlain_86 ?_
  refine g_aload_0 dX8_readPlain_87 ?_
  refine g_iload_2 dX8_readPlain_88 ?_
  refine g_if_ne (tgt := 96) dX8_readPlain_89 (by decide)  (fun h89 => ?_) (fun h89 => ?_)
  · refine g_iconst (v := nI 0) dX8_readPlain_96 rfl ?_
    refine g_iload_2 dX8_readPlain_97 ?_
    refine g_if_ne (tgt := 106) dX8_readPlain_98 (by decide)  (fun h98 => ?_) (fun h98 => ?_)
    · refine g_iconst (v := nI 2) dX8_readPlain_106 rfl ?_
      refine g_v2 dX8_readPlain_107 (vX8_167 rfl) rfl hao2 (Nat.le_of_ble_eq_true rfl) (Nat.le_of_ble_eq_true rfl) (Nat.le_of_ble_eq_true rfl) (m_digit (len := len) (p := takP (p + 1) (digB A len (p + 1) 0 1)) (gd := (digB A len (p + 1) 0 1)) hA2 hl rfl hlen (takP_lt hp9) rfl (by decide) (by decide)) (fun r M2 z2 hq => ?_) (fun E M2 z2 hq => by obtain ⟨hq, -⟩ := hq; cases hq)
      obtain ⟨hr, hA3, hO3, rfl⟩ := hq
      cases hr
      refine g_istore_3 rfl dX8_readPlain_110 ?_
      refine g_goto (tgt := 180) dX8_readPlain_111 (by decide) ?_
      exact g_return rfl dX8_readPlain_180 (Nat.le_of_ble_eq_true rfl) (Nat.le_of_ble_eq_true rfl) (by first | exact absurd h98 h89 | exact absurd h89 h98 | (unfold sjU; rw [if_pos (show (if (digB A len (p + 1) 0 1) = true then herF A len (p + 1) - nI 48 else nI 0) = 0 from h89), if_pos (show (if (digB A len (p + 1) 0 1) = true then herF A len (p + 1) - nI 48 else nI 0) = 0 from h89)]; exact ⟨rfl, ⟨_, hA3, rfl, rfl, hG, fun k k7 k8 _ => ((upd3 k7 k8).trans (upd3 k7 k8)).trans (upd3 k7 k8)⟩, (hO1.tr hO2).tr hO3, rfl⟩) | (unfold sjU; rw [if_neg (show ¬ (if (digB A len (p + 1) 0 1) = true then herF A len (p + 1) - nI 48 else nI 0) = 0 from h89), if_neg (show ¬ (if (digB A len (p + 1) 0 1) = true then herF A len (p + 1) - nI 48 else nI 0) = 0 from h89)]; exact ⟨rfl, ⟨_, hA3, rfl, rfl, hG, fun k k7 k8 _ => ((upd3 k7 k8).trans (upd3 k7 k8)).trans (upd3 k7 k8)⟩, (hO1.tr hO2).tr hO3, rfl⟩))
    · refine g_bipush (v := nI 9) dX8_readPlain_101 rfl ?_
      refine g_goto (tgt := 107) dX8_readPlain_103 (by decide) ?_
      refine g_v2 dX8_readPlain_107 (vX8_167 rfl) rfl hao2 (Nat.le_of_ble_eq_true rfl) (Nat.le_of_ble_eq_true rfl) (Nat.le_of_ble_eq_true rfl) (m_digit (len := len) (p := takP (p + 1) (digB A len (p + 1) 0 1)) (gd := (digB A len (p + 1) 0 1)) hA2 hl rfl hlen (takP_lt hp9) rfl (by decide) (by decide)) (fun r M2 z2 hq => ?_) (fun E M2 z2 hq => by obtain ⟨hq, -⟩ := hq; cases hq)
      obtain ⟨hr, hA3, hO3, rfl⟩ := hq
      cases hr
      refine g_istore_3 rfl dX8_readPlain_110 ?_
      refine g_goto (tgt := 180) dX8_readPlain_111 (by decide) ?_
      exact g_return rfl dX8_readPlain_180 (Nat.le_of_ble_eq_true rfl) (Nat.le_of_ble_eq_true rfl) (by first | exact absurd h98 h89 | exact absurd h89 h98 | (unfold sjU; rw [if_pos (show (if (digB A len (p + 1) 0 1) = true then herF A len (p + 1) - nI 48 else nI 0) = 0 from h89), if_pos (show (if (digB A len (p + 1) 0 1) = true then herF A len (p + 1) - nI 48 else nI 0) = 0 from h89)]; exact ⟨rfl, ⟨_, hA3, rfl, rfl, hG, fun k k7 k8 _ => ((upd3 k7 k8).trans (upd3 k7 k8)).trans (upd3 k7 k8)⟩, (hO1.tr hO2).tr hO3, rfl⟩) | (unfold sjU; rw [if_neg (show ¬ (if (digB A len (p + 1) 0 1) = true then herF A len (p + 1) - nI 48 else nI 0) = 0 from h89), if_neg (show ¬ (if (digB A len (p + 1) 0 1) = true then herF A len (p + 1) - nI 48 else nI 0) = 0 from h89)]; exact ⟨rfl, ⟨_, hA3, rfl, rfl, hG, fun k k7 k8 _ => ((upd3 k7 k8).trans (upd3 k7 k8)).trans (upd3 k7 k8)⟩, (hO1.tr hO2).tr hO3, rfl⟩))
  · refine g_iconst (v := nI 1) dX8_readPlain_92 rfl ?_
    refine g_goto (tgt := 97) dX8_readPlain_93 (by decide) ?_
    refine g_iload_2 dX8_readPlain_97 ?_
    refine g_if_ne (tgt := 106) dX8_readPlain_98 (by decide)  (fun h98 => ?_) (fun h98 => ?_)
    · refine g_iconst (v := nI 2) dX8_readPlain_106 rfl ?_
      refine g_v2 dX8_readPlain_107 (vX8_167 rfl) rfl hao2 (Nat.le_of_ble_eq_true rfl) (Nat.le_of_ble_eq_true rfl) (Nat.le_of_ble_eq_true rfl) (m_digit (len := len) (p := takP (p + 1) (digB A len (p + 1) 0 1)) (gd := (digB A len (p + 1) 0 1)) hA2 hl rfl hlen (takP_lt hp9) rfl (by decide) (by decide)) (fun r M2 z2 hq => ?_) (fun E M2 z2 hq => by obtain ⟨hq, -⟩ := hq; cases hq)
      obtain ⟨hr, hA3, hO3, rfl⟩ := hq
      cases hr
      refine g_istore_3 rfl dX8_readPlain_110 ?_
      refine g_goto (tgt := 180) dX8_readPlain_111 (by decide) ?_
      exact g_return rfl dX8_readPlain_180 (Nat.le_of_ble_eq_true rfl) (Nat.le_of_ble_eq_true rfl) (by first | exact absurd h98 h89 | exact absurd h89 h98 | (unfold sjU; rw [if_pos (show (if (digB A len (p + 1) 0 1) = true then herF A len (p + 1) - nI 48 else nI 0) = 0 from h89), if_pos (show (if (digB A len (p + 1) 0 1) = true then herF A len (p + 1) - nI 48 else nI 0) = 0 from h89)]; exact ⟨rfl, ⟨_, hA3, rfl, rfl, hG, fun k k7 k8 _ => ((upd3 k7 k8).trans (upd3 k7 k8)).trans (upd3 k7 k8)⟩, (hO1.tr hO2).tr hO3, rfl⟩) | (unfold sjU; rw [if_neg (show ¬ (if (digB A len (p + 1) 0 1) = true then herF A len (p + 1) - nI 48 else nI 0) = 0 from h89), if_neg (show ¬ (if (digB A len (p + 1) 0 1) = true then herF A len (p + 1) - nI 48 else nI 0) = 0 from h89)]; exact ⟨rfl, ⟨_, hA3, rfl, rfl, hG, fun k k7 k8 _ => ((upd3 k7 k8).trans (upd3 k7 k8)).trans (upd3 k7 k8)⟩, (hO1.tr hO2).tr hO3, rfl⟩))
    · refine g_bipush (v := nI 9) dX8_readPlain_101 rfl ?_
      refine g_goto (tgt := 107) dX8_readPlain_103 (by decide) ?_
      refine g_v2 dX8_readPlain_107 (vX8_167 rfl) rfl hao2 (Nat.le_of_ble_eq_true rfl) (Nat.le_of_ble_eq_true rfl) (Nat.le_of_ble_eq_true rfl) (m_digit (len := len) (p := takP (p + 1) (digB A len (p + 1) 0 1)) (gd := (digB A len (p + 1) 0 1)) hA2 hl rfl hlen (takP_lt hp9) rfl (by decide) (by decide)) (fun r M2 z2 hq => ?_) (fun E M2 z2 hq => by obtain ⟨hq, -⟩ := hq; cases hq)
      obtain ⟨hr, hA3, hO3, rfl⟩ := hq
      cases hr
      refine g_istore_3 rfl dX8_readPlain_110 ?_
      refine g_goto (tgt := 180) dX8_readPlain_111 (by decide) ?_
      exact g_return rfl dX8_readPlain_180 (Nat.le_of_ble_eq_true rfl) (Nat.le_of_ble_eq_true rfl) (by first | exact absurd h98 h89 | exact absurd h89 h98 | (unfold sjU; rw [if_pos (show (if (digB A len (p + 1) 0 1) = true then herF A len (p + 1) - nI 48 else nI 0) = 0 from h89), if_pos (show (if (digB A len (p + 1) 0 1) = true then herF A len (p + 1) - nI 48 else nI 0) = 0 from h89)]; exact ⟨rfl, ⟨_, hA3, rfl, rfl, hG, fun k k7 k8 _ => ((upd3 k7 k8).trans (upd3 k7 k8)).trans (upd3 k7 k8)⟩, (hO1.tr hO2).tr hO3, rfl⟩) | (unfold sjU; rw [if_neg (show ¬ (if (digB A len (p + 1) 0 1) = true then herF A len (p + 1) - nI 48 else nI 0) = 0 from h89), if_neg (show ¬ (if (digB A len (p + 1) 0 1) = true then herF A len (p + 1) - nI 48 else nI 0) = 0 from h89)]; exact ⟨rfl, ⟨_, hA3, rfl, rfl, hG, fun k k7 k8 _ => ((upd3 k7 k8).trans (upd3 k7 k8)).trans (upd3 k7 k8)⟩, (hO1.tr hO2).tr hO3, rfl⟩))
theorem m_plain_m (hA : MAt M b I A) (hl : I 16 = nI len) (hp : I 17 = nI p) (hlen : len ≤ 120) (hp9 : p < 900) (hg : I 18 = bI true) (hG : I 19 = G) (hc : herF A len p = nI 109) : Runs mX8_readPlain [.ref b] M z (RdQ M b I A (takP (p + 1) (digB A len (p + 1) 0 3)) (digB A len (p + 1) 0 3) (if G < (if (digB A len (p + 1) 0 3) = true then herF A len (p + 1) - nI 48 else nI 0) then (if (digB A len (p + 1) 0 3) = true then herF A len (p + 1) - nI 48 else nI 0) else G) z) := by
  have hao := hA.1
  refine runs_of plX8 rfl (Nat.le_of_ble_eq_true rfl) ?_
  show WP mX8_readPlain 0 [some (.ref b), none, none, none] [] M z 0 0 _
  refine g_aload_0 dX8_readPlain_0 ?_
  refine g_v0_1 dX8_readPlain_1 (vX8_160 rfl) rfl hao (Nat.le_of_ble_eq_true rfl) ⟨rfl, rfl⟩ (Nat.le_of_ble_eq_true rfl) (Nat.le_of_ble_eq_true rfl) (m_here hA hl hp hlen (by omega)) ?_
  rw [show (if p < len then A 12 p else -1) = herF A len p from rfl, hc]
  refine g_istore_1 rfl dX8_readPlain_4 ?_
  refine g_aload_0 dX8_readPlain_5 ?_
  refine g_iload_1 dX8_readPlain_6 ?_
  refine g_bipush (v := nI 115) dX8_readPlain_7 rfl ?_
  refine g_icmp_eqN (tgt := 60) dX8_readPlain_9 (by decide) (by omega) (by omega) (fun h9 => absurd h9 (by decide)) (fun _ => ?_)
  refine g_iload_1 dX8_readPlain_12 ?_
  refine g_bipush (v := nI 106) dX8_readPlain_13 rfl ?_
  refine g_icmp_eqN (tgt := 60) dX8_readPlain_15 (by decide) (by omega) (by omega) (fun h15 => absurd h15 (by decide)) (fun _ => ?_)
  refine g_iload_1 dX8_readPlain_18 ?_
  refine g_bipush (v := nI 108) dX8_readPlain_19 rfl ?_
  refine g_icmp_eqN (tgt := 60) dX8_readPlain_21 (by decide) (by omega) (by omega) (fun h21 => absurd h21 (by decide)) (fun _ => ?_)
  refine g_iload_1 dX8_readPlain_24 ?_
  refine g_bipush (v := nI 114) dX8_readPlain_25 rfl ?_
  refine g_icmp_eqN (tgt := 60) dX8_readPlain_27 (by decide) (by omega) (by omega) (fun h27 => absurd h27 (by decide)) (fun _ => ?_)
  refine g_iload_1 dX8_readPlain_30 ?_
  refine g_bipush (v := nI 99) dX8_readPlain_31 rfl ?_
  refine g_icmp_eqN (tgt := 60) dX8_readPlain_33 (by decide) (by omega) (by omega) (fun h33 => absurd h33 (by decide)) (fun _ => ?_)
  refine g_iload_1 dX8_readPlain_36 ?_
  refine g_bipush (v := nI 104) dX8_readPlain_37 rfl ?_
  refine g_icmp_eqN (tgt := 60) dX8_readPlain_39 (by decide) (by omega) (by omega) (fun h39 => absurd h39 (by decide)) (fun _ => ?_)
  refine g_iload_1 dX8_readPlain_42 ?_
  refine g_bipush (v := nI 120) dX8_readPlain_43 rfl ?_
  refine g_icmp_eqN (tgt := 60) dX8_readPlain_45 (by decide) (by omega) (by omega) (fun h45 => absurd h45 (by decide)) (fun _ => ?_)
  refine g_iload_1 dX8_readPlain_48 ?_
  refine g_bipush (v := nI 101) dX8_readPlain_49 rfl ?_
  refine g_icmp_eqN (tgt := 60) dX8_readPlain_51 (by decide) (by omega) (by omega) (fun h51 => absurd h51 (by decide)) (fun _ => ?_)
  refine g_iload_1 dX8_readPlain_54 ?_
  refine g_bipush (v := nI 109) dX8_readPlain_55 rfl ?_
  refine g_icmp_neN (tgt := 64) dX8_readPlain_57 (by decide) (by omega) (by omega) (fun h57 => absurd rfl h57) (fun _ => ?_)
  refine g_iconst (v := nI 1) dX8_readPlain_60 rfl ?_
  refine g_goto (tgt := 65) dX8_readPlain_61 (by decide) ?_
  refine g_v1 dX8_readPlain_65 (vX8_164 rfl) rfl hao (Nat.le_of_ble_eq_true rfl) (Nat.le_of_ble_eq_true rfl) (Nat.le_of_ble_eq_true rfl) (m_take (bq := true) hA hp hg) (fun r M2 z2 hq => ?_) (fun E M2 z2 hq => by obtain ⟨hq, -⟩ := hq; cases hq)
  obtain ⟨hr, hA1, hO1, rfl⟩ := hq
  cases hr
  have hA1 : MAt _ b (upd (upd I 18 (bI true)) 17 (nI (p + 1))) A := hA1
  have hao1 := hA1.1
  refine g_iload_1 dX8_readPlain_68 ?_
  refine g_bipush (v := nI 115) dX8_readPlain_69 rfl ?_
  refine g_icmp_eqN (tgt := 80) dX8_readPlain_71 (by decide) (by omega) (by omega) (fun h71 => absurd h71 (by decide)) (fun _ => ?_)
  refine g_iload_1 dX8_readPlain_74 ?_
  refine g_bipush (v := nI 106) dX8_readPlain_75 rfl ?_
  refine g_icmp_neN (tgt := 114) dX8_readPlain_77 (by decide) (by omega) (by omega) (fun _ => ?_) (fun h77 => absurd h77 (by decide))
  refine g_iload_1 dX8_readPlain_114 ?_
  refine g_bipush (v := nI 99) dX8_readPlain_115 rfl ?_
  refine g_icmp_neN (tgt := 130) dX8_readPlain_117 (by decide) (by omega) (by omega) (fun _ => ?_) (fun h117 => absurd h117 (by decide))
  refine g_iload_1 dX8_readPlain_130 ?_
  refine g_bipush (v := nI 104) dX8_readPlain_131 rfl ?_
  refine g_icmp_neN (tgt := 147) dX8_readPlain_133 (by decide) (by omega) (by omega) (fun _ => ?_) (fun h133 => absurd h133 (by decide))
  refine g_iload_1 dX8_readPlain_147 ?_
  refine g_bipush (v := nI 109) dX8_readPlain_148 rfl ?_
  refine g_icmp_neN (tgt := 180) dX8_readPlain_150 (by decide) (by omega) (by omega) (fun h150 => absurd rfl h150) (fun _ => ?_)
  refine g_aload_0 dX8_readPlain_153 ?_
  refine g_iconst (v := nI 0) dX8_readPlain_154 rfl ?_
  refine g_iconst (v := nI 3) dX8_readPlain_155 rfl ?_
  refine g_v2 dX8_readPlain_156 (vX8_167 rfl) rfl hao1 (Nat.le_of_ble_eq_true rfl) (Nat.le_of_ble_eq_true rfl) (Nat.le_of_ble_eq_true rfl) (m_digit (lo := 0) (hi := 3) (len := len) (p := p + 1) (gd := true) hA1 hl rfl hlen (by omega) rfl (by decide) (by decide)) (fun r M2 z2 hq => ?_) (fun E M2 z2 hq => by obtain ⟨hq, -⟩ := hq; cases hq)
  obtain ⟨hr, hA2, hO2, rfl⟩ := hq
  cases hr
  have hao2 := hA2.1
  rw [show (true && (digB A len (p + 1) 0 3)) = (digB A len (p + 1) 0 3) from rfl] at hA2
  rw [show (true && (digB A len (p + 1) 0 3)) = (digB A len (p + 1) 0 3) from rfl]
  refine g_istore_2 rfl dX8_readPlain_159 ?_
  refine g_aload_0 dX8_readPlain_160 ?_
  refine g_iload_2 dX8_readPlain_161 ?_
  refine g_aload_0 dX8_readPlain_162 ?_
  refine g_get dX8_readPlain_163 (fX8_170 rfl) hA2.1 rfl ?_
  rw [show (upd (upd (upd (upd I 18 (bI true)) 17 (nI (p + 1))) 18 (bI (digB A len (p + 1) 0 3))) 17 (nI (takP (p + 1) (digB A len (p + 1) 0 3)))) 19 = G from hG]
  refine g_icmp_le (tgt := 173) dX8_readPlain_166 (by decide)  (fun h166 => ?_) (fun h166 => ?_)
  · refine g_aload_0 dX8_readPlain_173 ?_
    refine g_get dX8_readPlain_174 (fX8_170 rfl) hA2.1 rfl ?_
    rw [show (upd (upd (upd (upd I 18 (bI true)) 17 (nI (p + 1))) 18 (bI (digB A len (p + 1) 0 3))) 17 (nI (takP (p + 1) (digB A len (p + 1) 0 3)))) 19 = G from hG]
    refine g_putI19 dX8_readPlain_177 (fX8_170 rfl) hA2 (fun M3 hA3 n3 => ?_)
    have hao3 := hA3.1
    exact g_return rfl dX8_readPlain_180 (Nat.le_of_ble_eq_true rfl) (Nat.le_of_ble_eq_true rfl) (by first | (rw [if_neg (show ¬ G < (if (digB A len (p + 1) 0 3) = true then herF A len (p + 1) - nI 48 else nI 0) from Int32.not_lt.mpr h166)]; exact ⟨rfl, ⟨_, hA3, rfl, rfl, rfl, fun k k7 k8 k9 => (upd_ne k9).trans ((upd3 k7 k8).trans (upd3 k7 k8))⟩, (hO1.tr hO2).tr (fun q hq => n3 q (by omega)), rfl⟩) | (rw [if_pos (show G < (if (digB A len (p + 1) 0 3) = true then herF A len (p + 1) - nI 48 else nI 0) from Int32.not_le.mp h166)]; exact ⟨rfl, ⟨_, hA3, rfl, rfl, rfl, fun k k7 k8 k9 => (upd_ne k9).trans ((upd3 k7 k8).trans (upd3 k7 k8))⟩, (hO1.tr hO2).tr (fun q hq => n3 q (by omega)), rfl⟩))
  · refine g_iload_2 dX8_readPlain_169 ?_
    refine g_goto (tgt := 177) dX8_readPlain_170 (by decide) ?_
    refine g_putI19 dX8_readPlain_177 (fX8_170 rfl) hA2 (fun M3 hA3 n3 => ?_)
    have hao3 := hA3.1
    exact g_return rfl dX8_readPlain_180 (Nat.le_of_ble_eq_true rfl) (Nat.le_of_ble_eq_true rfl) (by first | (rw [if_neg (show ¬ G < (if (digB A len (p + 1) 0 3) = true then herF A len (p + 1) - nI 48 else nI 0) from Int32.not_lt.mpr h166)]; exact ⟨rfl, ⟨_, hA3, rfl, rfl, rfl, fun k k7 k8 k9 => (upd_ne k9).trans ((upd3 k7 k8).trans (upd3 k7 k8))⟩, (hO1.tr hO2).tr (fun q hq => n3 q (by omega)), rfl⟩) | (rw [if_pos (show G < (if (digB A len (p + 1) 0 3) = true then herF A len (p + 1) - nI 48 else nI 0) from Int32.not_le.mp h166)]; exact ⟨rfl, ⟨_, hA3, rfl, rfl, rfl, fun k k7 k8 k9 => (upd_ne k9).trans ((upd3 k7 k8).trans (upd3 k7 k8))⟩, (hO1.tr hO2).tr (fun q hq => n3 q (by omega)), rfl⟩))
end P37
