section P40
variable {M M0 : Hp} {z b c j i n len p : Nat} {f g : Row} {x y w v G : Int32} {I : Row} {A : Nat → Row} {gd bq : Bool} {Φ : GR → Hp → Nat → Prop}
/-- the head of a group is read -/
def rdH (A : Nat → Row) (len p : Nat) (G : Int32) : Nat × Bool × Int32 := if herF A len (p + 1) = nI 40 then rdP A len (p + 2) G else (p + 1, false, G)
def rdO (A : Nat → Row) (len p : Nat) (G : Int32) : Nat × Bool × Int32 :=
  if (decide (nI 50 ≤ herF A len p) && decide (herF A len p ≤ nI 57)) = true then
    (takP (rdG A len 122 (rdH A len p G).1 (rdH A len p G).2.1 (rdH A len p G).2.2).1 (rdG A len 122 (rdH A len p G).1 (rdH A len p G).2.1 (rdH A len p G).2.2).2.1, (rdG A len 122 (rdH A len p G).1 (rdH A len p G).2.1 (rdH A len p G).2.2).2.1, (rdG A len 122 (rdH A len p G).1 (rdH A len p G).2.1 (rdH A len p G).2.2).2.2)
  else rdP A len p G
theorem dgt_lt (h : (decide (nI 50 ≤ herF A len p) && decide (herF A len p ≤ nI 57)) = true) : p < len := by
  refine herF_lt (A := A) (fun q => ?_)
  rw [q] at h
  exact absurd h (by decide)
theorem m_order42f {I0 : Row} (hA : MAt M b (upd (upd I 18 (bI true)) 17 (nI (p + 1))) A) (hl : I 16 = nI len) (hlen : len ≤ 120) (hpl : p + 1 ≤ len) (hG : I 19 = G) (hI : ∀ k, k ≠ 17 → k ≠ 18 → k ≠ 19 → upd (upd I 18 (bI true)) 17 (nI (p + 1)) k = I0 k) (hO : Out M0 M b 13) : WP mX8_readOrder 42 [some (.ref b)] [.int (nI 0), .ref b] M z 0 0 (RdQ M0 b I0 A (takP (rdG A len 122 (p + 1) false G).1 (rdG A len 122 (p + 1) false G).2.1) (rdG A len 122 (p + 1) false G).2.1 (rdG A len 122 (p + 1) false G).2.2 z) := by
  refine g_v1 dX8_readOrder_42 (vX8_164 rfl) rfl hA.1 (Nat.le_of_ble_eq_true rfl) (Nat.le_of_ble_eq_true rfl) (Nat.le_of_ble_eq_true rfl) (m_take (gd := true) (bq := false) (p := p + 1) hA rfl rfl) (fun r M2 z2 hq => ?_) (fun E M2 z2 hq => by obtain ⟨hq, -⟩ := hq; cases hq)
  obtain ⟨hr, hA2, hO2, rfl⟩ := hq
  cases hr
  have hA2 : MAt _ b (upd (upd (upd (upd I 18 (bI true)) 17 (nI (p + 1))) 18 (bI false)) 17 (nI (p + 1))) A := hA2
  refine g_aload_0 dX8_readOrder_45 ?_
  refine g_get dX8_readOrder_46 (fX8_156 rfl) hA2.1 rfl ?_
  rw [show upd (upd (upd (upd I 18 (bI true)) 17 (nI (p + 1))) 18 (bI false)) 17 (nI (p + 1)) 18 = bI false from rfl]
  refine g_if_eqB (tgt := 56) dX8_readOrder_49 (by decide)  (fun _ => ?_) (fun h49 => absurd h49 (by decide))
  exact m_group hlen 121 hA2 hl rfl hpl rfl hG (fun k k7 k8 k9 => (upd3 k7 k8).trans (hI k k7 k8 k9)) (hO.tr hO2) (fun e => absurd e (by decide))
theorem m_order42t {I0 : Row} (hA : MAt M b (upd (upd I 18 (bI true)) 17 (nI (p + 1))) A) (hl : I 16 = nI len) (hlen : len ≤ 120) (hpl : p + 2 ≤ len) (hG : I 19 = G) (hI : ∀ k, k ≠ 17 → k ≠ 18 → k ≠ 19 → upd (upd I 18 (bI true)) 17 (nI (p + 1)) k = I0 k) (hO : Out M0 M b 13) : WP mX8_readOrder 42 [some (.ref b)] [.int (nI 1), .ref b] M z 0 0 (RdQ M0 b I0 A (takP (rdG A len 122 (rdP A len (p + 2) G).1 (rdP A len (p + 2) G).2.1 (rdP A len (p + 2) G).2.2).1 (rdG A len 122 (rdP A len (p + 2) G).1 (rdP A len (p + 2) G).2.1 (rdP A len (p + 2) G).2.2).2.1) (rdG A len 122 (rdP A len (p + 2) G).1 (rdP A len (p + 2) G).2.1 (rdP A len (p + 2) G).2.2).2.1 (rdG A len 122 (rdP A len (p + 2) G).1 (rdP A len (p + 2) G).2.1 (rdP A len (p + 2) G).2.2).2.2 z) := by
  refine g_v1 dX8_readOrder_42 (vX8_164 rfl) rfl hA.1 (Nat.le_of_ble_eq_true rfl) (Nat.le_of_ble_eq_true rfl) (Nat.le_of_ble_eq_true rfl) (m_take (gd := true) (bq := true) (p := p + 1) hA rfl rfl) (fun r M2 z2 hq => ?_) (fun E M2 z2 hq => by obtain ⟨hq, -⟩ := hq; cases hq)
  obtain ⟨hr, hA2, hO2, rfl⟩ := hq
  cases hr
  have hA2 : MAt _ b (upd (upd (upd (upd I 18 (bI true)) 17 (nI (p + 1))) 18 (bI true)) 17 (nI (p + 2))) A := hA2
  refine g_aload_0 dX8_readOrder_45 ?_
  refine g_get dX8_readOrder_46 (fX8_156 rfl) hA2.1 rfl ?_
  rw [show upd (upd (upd (upd I 18 (bI true)) 17 (nI (p + 1))) 18 (bI true)) 17 (nI (p + 2)) 18 = bI true from rfl]
  refine g_if_eqB (tgt := 56) dX8_readOrder_49 (by decide)  (fun h49 => absurd h49 (by decide)) (fun _ => ?_)
  refine g_aload_0 dX8_readOrder_52 ?_
  refine g_v0 dX8_readOrder_53 (vX8_177 rfl) rfl hA2.1 (Nat.le_of_ble_eq_true rfl) (Nat.le_of_ble_eq_true rfl) (Nat.le_of_ble_eq_true rfl) (m_readPlain (len := len) (p := p + 2) hA2 hl rfl hlen (by omega) rfl hG) (fun r M2 z2 hq => ?_) (fun E M2 z2 hq => by obtain ⟨hq, -⟩ := hq; cases hq)
  obtain ⟨hr, ⟨I3, hA3, e17, e18, e19, eI⟩, hO3, rfl⟩ := hq
  cases hr
  exact m_group hlen 121 hA3 ((eI 16 (by decide) (by decide) (by decide)).trans hl) e17 (rdP_le hpl) e18 e19 (fun k k7 k8 k9 => (eI k k7 k8 k9).trans ((upd3 k7 k8).trans (hI k k7 k8 k9))) ((hO.tr hO2).tr hO3) (fun e => by omega)
theorem m_readOrder (hA : MAt M b I A) (hl : I 16 = nI len) (hp : I 17 = nI p) (hlen : len ≤ 120) (hple : p ≤ len) (hg : I 18 = bI true) (hG : I 19 = G) : Runs mX8_readOrder [.ref b] M z (RdQ M b I A (rdO A len p G).1 (rdO A len p G).2.1 (rdO A len p G).2.2 z) := by
  refine runs_of plX8 rfl (Nat.le_of_ble_eq_true rfl) ?_
  show WP mX8_readOrder 0 [some (.ref b)] [] M z 0 0 _
  refine g_aload_0 dX8_readOrder_0 ?_
  refine g_v0_1 dX8_readOrder_1 (vX8_160 rfl) rfl hA.1 (Nat.le_of_ble_eq_true rfl) ⟨rfl, rfl⟩ (Nat.le_of_ble_eq_true rfl) (Nat.le_of_ble_eq_true rfl) (m_here hA hl hp hlen (by omega)) ?_
  rw [show (if p < len then A 12 (p) else -1) = herF A len (p) from rfl]
  refine g_i2l dX8_readOrder_4 ?_
  refine g_ldc2 dX8_readOrder_5 (zX8_173 rfl) ?_
  refine g_ldc2 dX8_readOrder_8 (zX8_175 rfl) ?_
  refine g_s3_1 dX8_readOrder_11 (sX8_53 rfl) rfl (Nat.le_of_ble_eq_true rfl) ⟨rfl, rfl⟩ (Nat.le_of_ble_eq_true rfl) (Nat.le_of_ble_eq_true rfl) (m_inI (by decide) (by decide) rfl rfl) ?_
  refine g_if_neB (tgt := 22) dX8_readOrder_14 (by decide)  (fun h14 => ?_) (fun h14 => ?_)
  · have hpl := dgt_lt h14
    have er : rdO A len p G = (takP (rdG A len 122 (rdH A len p G).1 (rdH A len p G).2.1 (rdH A len p G).2.2).1 (rdG A len 122 (rdH A len p G).1 (rdH A len p G).2.1 (rdH A len p G).2.2).2.1, (rdG A len 122 (rdH A len p G).1 (rdH A len p G).2.1 (rdH A len p G).2.2).2.1, (rdG A len 122 (rdH A len p G).1 (rdH A len p G).2.1 (rdH A len p G).2.2).2.2) := if_pos h14
    refine g_aload_0 dX8_readOrder_22 ?_
    refine g_iconst (v := nI 1) dX8_readOrder_23 rfl ?_
    refine g_v1 dX8_readOrder_24 (vX8_164 rfl) rfl hA.1 (Nat.le_of_ble_eq_true rfl) (Nat.le_of_ble_eq_true rfl) (Nat.le_of_ble_eq_true rfl) (m_take (bq := true) hA hp hg) (fun r M2 z2 hq => ?_) (fun E M2 z2 hq => by obtain ⟨hq, -⟩ := hq; cases hq)
    obtain ⟨hr, hA1, hO1, rfl⟩ := hq
    cases hr
    have hA1 : MAt _ b (upd (upd I 18 (bI true)) 17 (nI (p + 1))) A := hA1
    refine g_aload_0 dX8_readOrder_27 ?_
    refine g_aload_0 dX8_readOrder_28 ?_
    refine g_v0_1 dX8_readOrder_29 (vX8_160 rfl) rfl hA1.1 (Nat.le_of_ble_eq_true rfl) ⟨rfl, rfl⟩ (Nat.le_of_ble_eq_true rfl) (Nat.le_of_ble_eq_true rfl) (m_here (len := len) (p := p + 1) hA1 hl rfl hlen (by omega)) ?_
    rw [show (if p + 1 < len then A 12 (p + 1) else -1) = herF A len (p + 1) from rfl]
    refine g_bipush (v := nI 40) dX8_readOrder_32 rfl ?_
    refine g_icmp_ne (tgt := 41) dX8_readOrder_34 (by decide)  (fun h34 => ?_) (fun h34 => ?_)
    · refine g_iconst (v := nI 0) dX8_readOrder_41 rfl ?_
      first
        | (have eh : rdH A len p G = (p + 1, false, G) := if_neg h34
           rw [er, eh]
           exact m_order42f hA1 hl hlen (by omega) hG (fun k k7 k8 k9 => upd3 k7 k8) hO1)
        | (have hpl2 : p + 1 < len := herF_lt (A := A) (by rw [h34]; decide)
           have eh : rdH A len p G = rdP A len (p + 2) G := if_pos h34
           rw [er, eh]
           exact m_order42t hA1 hl hlen (by omega) hG (fun k k7 k8 k9 => upd3 k7 k8) hO1)
    · refine g_iconst (v := nI 1) dX8_readOrder_37 rfl ?_
      refine g_goto (tgt := 42) dX8_readOrder_38 (by decide) ?_
      first
        | (have eh : rdH A len p G = (p + 1, false, G) := if_neg h34
           rw [er, eh]
           exact m_order42f hA1 hl hlen (by omega) hG (fun k k7 k8 k9 => upd3 k7 k8) hO1)
        | (have hpl2 : p + 1 < len := herF_lt (A := A) (by rw [h34]; decide)
           have eh : rdH A len p G = rdP A len (p + 2) G := if_pos h34
           rw [er, eh]
           exact m_order42t hA1 hl hlen (by omega) hG (fun k k7 k8 k9 => upd3 k7 k8) hO1)
  · have er : rdO A len p G = rdP A len p G := if_neg (by rw [h14]; decide)
    refine g_aload_0 dX8_readOrder_17 ?_
    refine g_v0 dX8_readOrder_18 (vX8_177 rfl) rfl hA.1 (Nat.le_of_ble_eq_true rfl) (Nat.le_of_ble_eq_true rfl) (Nat.le_of_ble_eq_true rfl) (m_readPlain hA hl hp hlen (by omega) hg hG) (fun r M2 z2 hq => ?_) (fun E M2 z2 hq => by obtain ⟨hq, -⟩ := hq; cases hq)
    obtain ⟨hr, hX, hO1, rfl⟩ := hq
    cases hr
    exact g_return rfl dX8_readOrder_21 (Nat.le_of_ble_eq_true rfl) (Nat.le_of_ble_eq_true rfl) (by rw [er]; exact ⟨rfl, hX, hO1, rfl⟩)
end P40
