section P39
variable {M M0 : Hp} {z b c j i n len p : Nat} {f g : Row} {x y w v G : Int32} {I : Row} {A : Nat → Row} {gd bq : Bool} {Φ : GR → Hp → Nat → Prop}
theorem takP_ge {q : Nat} {t : Bool} : q ≤ takP q t := by unfold takP; omega
theorem rdP_gt (h : (rdP A len p G).2.1 = true) : p < (rdP A len p G).1 := by
  unfold rdP at h ⊢
  split
  · exact Nat.lt_succ_self p
  · next h1 =>
    rw [if_neg h1] at h
    split
    · exact Nat.lt_of_lt_of_le (Nat.lt_succ_self p) (Nat.le_trans takP_ge takP_ge)
    · next h2 =>
      rw [if_neg h2] at h
      split
      · exact Nat.lt_of_lt_of_le (Nat.lt_succ_self p) takP_ge
      · next h3 =>
        rw [if_neg h3] at h
        split
        · exact Nat.lt_of_lt_of_le (Nat.lt_succ_self p) takP_ge
        · next h4 =>
          rw [if_neg h4] at h
          split
          · exact Nat.lt_of_lt_of_le (Nat.lt_succ_self p) takP_ge
          · next h5 =>
            rw [if_neg h5] at h
            cases h
/-- the orders of a group -/
def rdG (A : Nat → Row) (len : Nat) : Nat → Nat → Bool → Int32 → Nat × Bool × Int32
  | 0, p, ok, G => (p, ok, G)
  | d + 1, p, ok, G => if ok = true ∧ ¬ herF A len p = nI 41 then rdG A len d (rdP A len p G).1 (rdP A len p G).2.1 (rdP A len p G).2.2 else (p, ok, G)
theorem m_order79 {I0 : Row} {I : Row} {M : Hp} {G : Int32} {ok : Bool} (hA : MAt M b I A) (hl : I 16 = nI len) (hp : I 17 = nI p) (hple : p ≤ len) (hg : I 18 = bI ok) (hG : I 19 = G) (hI : ∀ k, k ≠ 17 → k ≠ 18 → k ≠ 19 → I k = I0 k) (hO : Out M0 M b 13) : WP mX8_readOrder 79 [some (.ref b)] [] M z 0 0 (RdQ M0 b I0 A (takP p ok) ok G z) := by
  refine g_aload_0 dX8_readOrder_79 ?_
  refine g_aload_0 dX8_readOrder_80 ?_
  refine g_get dX8_readOrder_81 (fX8_156 rfl) hA.1 rfl ?_
  rw [hg]
  refine g_v1 dX8_readOrder_84 (vX8_164 rfl) rfl hA.1 (Nat.le_of_ble_eq_true rfl) (Nat.le_of_ble_eq_true rfl) (Nat.le_of_ble_eq_true rfl) (m_take hA hp hg) (fun r M2 z2 hq => ?_) (fun E M2 z2 hq => by obtain ⟨hq, -⟩ := hq; cases hq)
  obtain ⟨hr, hA1, hO1, rfl⟩ := hq
  cases hr
  rw [show (ok && ok) = ok from by cases ok <;> rfl] at hA1
  exact g_return rfl dX8_readOrder_87 (Nat.le_of_ble_eq_true rfl) (Nat.le_of_ble_eq_true rfl) ⟨rfl, ⟨_, hA1, rfl, rfl, hG, fun k k7 k8 k9 => (upd3 k7 k8).trans (hI k k7 k8 k9)⟩, hO.tr hO1, rfl⟩
theorem m_group {I0 : Row} (hlen : len ≤ 120) : ∀ d {p : Nat} {ok : Bool} {G : Int32} {I : Row} {M : Hp}, MAt M b I A → I 16 = nI len → I 17 = nI p → p ≤ len → I 18 = bI ok → I 19 = G → (∀ k, k ≠ 17 → k ≠ 18 → k ≠ 19 → I k = I0 k) → Out M0 M b 13 → (ok = true → len + 1 ≤ p + d) → WP mX8_readOrder 56 [some (.ref b)] [] M z 0 0 (RdQ M0 b I0 A (takP (rdG A len (d + 1) p ok G).1 (rdG A len (d + 1) p ok G).2.1) (rdG A len (d + 1) p ok G).2.1 (rdG A len (d + 1) p ok G).2.2 z) := by
  intro d
  induction d with
  | zero =>
    intro p ok G I M hA hl hp hple hg hG hI hO hd
    cases hok : ok with
    | false =>
      have er : rdG A len (0 + 1) p false G = (p, false, G) := by
        simp [rdG]
      refine g_aload_0 dX8_readOrder_56 ?_
      refine g_get dX8_readOrder_57 (fX8_156 rfl) hA.1 rfl ?_
      rw [hg, hok]
      refine g_if_eqB (tgt := 79) dX8_readOrder_60 (by decide)  (fun _ => ?_) (fun h60 => absurd h60 (by decide))
      rw [er]
      exact m_order79 hA hl hp hple (by rw [hg, hok]) hG hI hO
    | true => exact absurd (hd hok) (by omega)
  | succ d ih =>
    intro p ok G I M hA hl hp hple hg hG hI hO hd
    cases hok : ok with
    | false =>
      have er : rdG A len (d + 1 + 1) p false G = (p, false, G) := by
        simp [rdG]
      refine g_aload_0 dX8_readOrder_56 ?_
      refine g_get dX8_readOrder_57 (fX8_156 rfl) hA.1 rfl ?_
      rw [hg, hok]
      refine g_if_eqB (tgt := 79) dX8_readOrder_60 (by decide)  (fun _ => ?_) (fun h60 => absurd h60 (by decide))
      rw [er]
      exact m_order79 hA hl hp hple (by rw [hg, hok]) hG hI hO
    | true =>
      by_cases hh : herF A len p = nI 41
      · have er : rdG A len (d + 1 + 1) p true G = (p, true, G) := by
          simp [rdG, hh]
        refine g_aload_0 dX8_readOrder_56 ?_
        refine g_get dX8_readOrder_57 (fX8_156 rfl) hA.1 rfl ?_
        rw [hg, hok]
        refine g_if_eqB (tgt := 79) dX8_readOrder_60 (by decide)  (fun h60 => absurd h60 (by decide)) (fun _ => ?_)
        refine g_aload_0 dX8_readOrder_63 ?_
        refine g_v0_1 dX8_readOrder_64 (vX8_160 rfl) rfl hA.1 (Nat.le_of_ble_eq_true rfl) ⟨rfl, rfl⟩ (Nat.le_of_ble_eq_true rfl) (Nat.le_of_ble_eq_true rfl) (m_here hA hl hp hlen (by omega)) ?_
        rw [show (if p < len then A 12 p else -1) = herF A len p from rfl]
        refine g_bipush (v := nI 41) dX8_readOrder_67 rfl ?_
        refine g_icmp_eq (tgt := 79) dX8_readOrder_69 (by decide)  (fun _ => ?_) (fun h69 => absurd hh h69)
        rw [er]
        exact m_order79 hA hl hp hple (by rw [hg, hok]) hG hI hO
      · have er : rdG A len (d + 1 + 1) p true G = rdG A len (d + 1) (rdP A len p G).1 (rdP A len p G).2.1 (rdP A len p G).2.2 := by
          conv => lhs; unfold rdG
          rw [if_pos ⟨rfl, hh⟩]
        refine g_aload_0 dX8_readOrder_56 ?_
        refine g_get dX8_readOrder_57 (fX8_156 rfl) hA.1 rfl ?_
        rw [hg, hok]
        refine g_if_eqB (tgt := 79) dX8_readOrder_60 (by decide)  (fun h60 => absurd h60 (by decide)) (fun _ => ?_)
        refine g_aload_0 dX8_readOrder_63 ?_
        refine g_v0_1 dX8_readOrder_64 (vX8_160 rfl) rfl hA.1 (Nat.le_of_ble_eq_true rfl) ⟨rfl, rfl⟩ (Nat.le_of_ble_eq_true rfl) (Nat.le_of_ble_eq_true rfl) (m_here hA hl hp hlen (by omega)) ?_
        rw [show (if p < len then A 12 p else -1) = herF A len p from rfl]
        refine g_bipush (v := nI 41) dX8_readOrder_67 rfl ?_
        refine g_icmp_eq (tgt := 79) dX8_readOrder_69 (by decide)  (fun h69 => absurd h69 hh) (fun _ => ?_)
        refine g_aload_0 dX8_readOrder_72 ?_
        refine g_v0 dX8_readOrder_73 (vX8_177 rfl) rfl hA.1 (Nat.le_of_ble_eq_true rfl) (Nat.le_of_ble_eq_true rfl) (Nat.le_of_ble_eq_true rfl) (m_readPlain hA hl hp hlen (by omega) (by rw [hg, hok]) hG) (fun r M2 z2 hq => ?_) (fun E M2 z2 hq => by obtain ⟨hq, -⟩ := hq; cases hq)
        obtain ⟨hr, ⟨I1, hA1, e17, e18, e19, eI⟩, hO1, rfl⟩ := hq
        cases hr
        refine g_goto (tgt := 56) dX8_readOrder_76 (by decide) ?_
        rw [er]
        exact ih hA1 ((eI 16 (by decide) (by decide) (by decide)).trans hl) e17 (rdP_le hple) e18 e19 (fun k k7 k8 k9 => (eI k k7 k8 k9).trans (hI k k7 k8 k9)) (hO.tr hO1) (fun e => by have := rdP_gt e; have h2 := hd hok; omega)
end P39
