section P26
variable {M M0 : Hp} {z c j i n : Nat} {p q h : Nat → Int32} {x : Int32} {Φ : GR → Hp → Nat → Prop}
theorem cnt_gap {P : Nat → Bool} {n : Nat} : ∀ m, n ≤ m → (∀ k, n ≤ k → k < m → P k = false) → cnt P m = cnt P n
  | 0, h, _ => by obtain rfl : n = 0 := by omega
                  rfl
  | m + 1, h, hq => by
    by_cases e : n = m + 1
    · rw [e]
    · rw [cnt_f (hq m (by omega) (by omega)), Nat.add_zero]
      exact cnt_gap m (by omega) (fun k k1 k2 => hq k k1 (by omega))
/-- between the corners -/
def inR (i j k : Nat) : Bool := decide (min (i % 12) (j % 12) ≤ k % 12) && decide (k % 12 ≤ max (i % 12) (j % 12)) && decide (min (i / 12) (j / 12) ≤ k / 12) && decide (k / 12 ≤ max (i / 12) (j / 12))
theorem inR_t {k : Nat} (h1 : min (i % 12) (j % 12) ≤ k % 12) (h2 : k % 12 ≤ max (i % 12) (j % 12)) (h3 : min (i / 12) (j / 12) ≤ k / 12) (h4 : k / 12 ≤ max (i / 12) (j / 12)) : inR i j k = true := by
  unfold inR; rw [decide_eq_true h1, decide_eq_true h2, decide_eq_true h3, decide_eq_true h4]; rfl
theorem inR_f {k : Nat} (h : k % 12 < min (i % 12) (j % 12) ∨ max (i % 12) (j % 12) < k % 12 ∨ k / 12 < min (i / 12) (j / 12) ∨ max (i / 12) (j / 12) < k / 12) : inR i j k = false := by
  unfold inR
  rcases h with h | h | h | h
  · rw [decide_eq_false (by omega)]; rfl
  · rw [decide_eq_false (p := k % 12 ≤ _) (by omega)]; simp
  · rw [decide_eq_false (p := _ ≤ k / 12) (by omega)]; simp
  · rw [decide_eq_false (p := k / 12 ≤ _) (by omega)]; simp
def flQ (p : Row) (x : Int32) (i j : Nat) : Nat → Bool := fun k => inR i j k && decide (p k ≠ x)
def flP (p : Row) (x : Int32) (i j t : Nat) : Row := fun k => if k < t ∧ inR i j k = true then x else p k
theorem flP_gap {t t' : Nat} (h : t ≤ t') (hq : ∀ k, t ≤ k → k < t' → inR i j k = false) : flP p x i j t' = flP p x i j t := by
  funext k
  simp only [flP]
  by_cases h1 : k < t
  · simp [h1, show k < t' by omega]
  · by_cases h2 : k < t'
    · simp [h1, hq k (by omega) h2]
    · simp [h1, h2]
theorem flQ_gap {t t' : Nat} (h : t ≤ t') (hq : ∀ k, t ≤ k → k < t' → inR i j k = false) : cnt (flQ p x i j) t' = cnt (flQ p x i j) t :=
  cnt_gap t' h (fun k k1 k2 => by simp only [flQ]; rw [hq k k1 k2]; rfl)
theorem flP_at {t : Nat} : flP p x i j t t = p t := by simp [flP]
theorem flP_step {t : Nat} (h : inR i j t = true) : upd (flP p x i j t) t x = flP p x i j (t + 1) := by
  funext k
  simp only [upd, flP]
  by_cases h1 : k = t
  · subst h1; simp [h]
  · by_cases h2 : k < t
    · simp [h1, h2, show k < t + 1 by omega]
    · simp [h1, h2, show ¬ k < t + 1 by omega]
theorem flP_same {t : Nat} (h : p t = x) : flP p x i j (t + 1) = flP p x i j t := by
  funext k
  simp only [flP]
  by_cases h1 : k = t
  · subst h1; simp [h]
  · by_cases h2 : k < t
    · simp [h2, show k < t + 1 by omega]
    · simp [h2, show ¬ k < t + 1 by omega]
theorem CanvasAt.setP' {p' : Row} (hc : CanvasAt M c p q h) (e : upd p j x = p') : CanvasAt (hpu M (c + 1) (aI 144 p')) c p' q h := by
  obtain ⟨g0, g1, g2, g3⟩ := hc
  exact ⟨(hpu_ne _ _ (by omega)).trans g0, hpu_same _ _ _, (hpu_ne _ _ (by omega)).trans g2, (hpu_ne _ _ (by omega)).trans g3⟩
theorem c_fill_in {r : Nat} (hi : i < 144) (hj : j < 144) (hr1 : min (i / 12) (j / 12) ≤ r) (hr2 : r ≤ max (i / 12) (j / 12)) (hk : ∀ M' l9, CanvasAt M' c (flP p x i j (12 * r + (max (i % 12) (j % 12) + 1))) q h → Out M0 M' c 4 → WP mX1_fillBetween 105 [some (.ref c), some (.int (nI i)), some (.int (nI j)), some (.int x), some (.int (nI (max (i % 12) (j % 12)))), some (.int (nI (max (i / 12) (j / 12)))), some (.int (nI (cnt (flQ p x i j) (12 * r + (max (i % 12) (j % 12) + 1))))), some (.int (nI (r))), some (.int (nI (max (i % 12) (j % 12) + 1))), l9] [] M' z 0 0 Φ) :
    ∀ d col (M : Hp) l9, col + d = max (i % 12) (j % 12) + 1 → min (i % 12) (j % 12) ≤ col → CanvasAt M c (flP p x i j (12 * r + col)) q h → Out M0 M c 4 → WP mX1_fillBetween 62 [some (.ref c), some (.int (nI i)), some (.int (nI j)), some (.int x), some (.int (nI (max (i % 12) (j % 12)))), some (.int (nI (max (i / 12) (j / 12)))), some (.int (nI (cnt (flQ p x i j) (12 * r + col)))), some (.int (nI (r))), some (.int (nI col)), l9] [] M z 0 0 Φ := by
  intro d
  induction d with
  | zero =>
    intro col M l9 hd hl hC hO
    obtain rfl : col = max (i % 12) (j % 12) + 1 := by omega
    refine g_iload_8 dX1_fillBetween_62 ?_
    refine g_iload_4 dX1_fillBetween_64 ?_
    refine g_icmp_gtN (tgt := 105) dX1_fillBetween_66 (by decide) (by omega) (by omega) (fun _ => ?_) (fun h66 => absurd h66 (by omega))
    exact hk _ l9 hC hO
  | succ d ih =>
    intro col M l9 hd hl hC hO
    have hco := hC.1
    have ht : 12 * r + col < 144 := by omega
    have hin : inR i j (12 * r + col) = true := inR_t (by omega) (by omega) (by omega) (by omega)
    refine g_iload_8 dX1_fillBetween_62 ?_
    refine g_iload_4 dX1_fillBetween_64 ?_
    refine g_icmp_gtN (tgt := 105) dX1_fillBetween_66 (by decide) (by omega) (by omega) (fun h66 => absurd h66 (by omega)) (fun _ => ?_)
    refine g_bipush (v := nI 12) dX1_fillBetween_69 rfl ?_
    refine g_iload_7 dX1_fillBetween_71 ?_
    refine g_imulN dX1_fillBetween_73 ?_
    refine g_iload_8 dX1_fillBetween_74 ?_
    refine g_iaddN dX1_fillBetween_76 ?_
    refine g_istore_9 rfl dX1_fillBetween_77 ?_
    refine g_aload_0 dX1_fillBetween_79 ?_
    refine g_iload_9 dX1_fillBetween_80 ?_
    refine g_v1_1 dX1_fillBetween_82 (vX1_27 rfl) rfl hco (Nat.le_of_ble_eq_true rfl) ⟨rfl, rfl⟩ (Nat.le_of_ble_eq_true rfl) (Nat.le_of_ble_eq_true rfl) (c_planAt hC ht) ?_
    rw [flP_at]
    refine g_iload_3 dX1_fillBetween_85 ?_
    refine g_icmp_eq (tgt := 99) dX1_fillBetween_86 (by decide)  (fun h86 => ?_) (fun h86 => ?_)
    · refine g_iincN_8 (q := 1) rfl dX1_fillBetween_99 rfl ?_
      refine g_goto (tgt := 62) dX1_fillBetween_102 (by decide) ?_
      first
        | (have eQ : cnt (flQ p x i j) (12 * r + col + 1) = cnt (flQ p x i j) (12 * r + col) + 1 := cnt_t (by simp only [flQ]; rw [hin, decide_eq_true h86]; rfl)
           rw [← eQ]
           exact ih (col + 1) _ _ (by omega) (by omega) (hC.setP' (flP_step hin)) (hO.tr (Out.put (by omega) (by omega))))
        | (have eQ : cnt (flQ p x i j) (12 * r + col + 1) = cnt (flQ p x i j) (12 * r + col) := cnt_f (by simp only [flQ]; rw [decide_eq_false (fun q => q h86)]; simp)
           rw [← eQ]
           exact ih (col + 1) _ _ (by omega) (by omega) (by rw [show 12 * r + (col + 1) = 12 * r + col + 1 from rfl, flP_same h86]; exact hC) hO)
    · refine g_aload_0 dX1_fillBetween_89 ?_
      refine g_iload_9 dX1_fillBetween_90 ?_
      refine g_iload_3 dX1_fillBetween_92 ?_
      refine g_v2 dX1_fillBetween_93 (vX1_43 rfl) rfl hco (Nat.le_of_ble_eq_true rfl) (Nat.le_of_ble_eq_true rfl) (Nat.le_of_ble_eq_true rfl) (c_setPlanAt hC ht) (fun r M2 z2 hq => ?_) (fun E M2 z2 hq => by obtain ⟨hq, -⟩ := hq; cases hq)
      obtain ⟨hr, rfl, rfl⟩ := hq
      cases hr
      rw [flP_step hin]
      refine g_iincN_6 (q := 1) rfl dX1_fillBetween_96 rfl ?_
      refine g_iincN_8 (q := 1) rfl dX1_fillBetween_99 rfl ?_
      refine g_goto (tgt := 62) dX1_fillBetween_102 (by decide) ?_
      first
        | (have eQ : cnt (flQ p x i j) (12 * r + col + 1) = cnt (flQ p x i j) (12 * r + col) + 1 := cnt_t (by simp only [flQ]; rw [hin, decide_eq_true h86]; rfl)
           rw [← eQ]
           exact ih (col + 1) _ _ (by omega) (by omega) (hC.setP' (flP_step hin)) (hO.tr (Out.put (by omega) (by omega))))
        | (have eQ : cnt (flQ p x i j) (12 * r + col + 1) = cnt (flQ p x i j) (12 * r + col) := cnt_f (by simp only [flQ]; rw [decide_eq_false (fun q => q h86)]; simp)
           rw [← eQ]
           exact ih (col + 1) _ _ (by omega) (by omega) (by rw [show 12 * r + (col + 1) = 12 * r + col + 1 from rfl, flP_same h86]; exact hC) hO)
theorem c_fill_out (hi : i < 144) (hj : j < 144) : ∀ d r (M : Hp) l8 l9, r + d = max (i / 12) (j / 12) + 1 → min (i / 12) (j / 12) ≤ r → CanvasAt M c (flP p x i j (12 * r)) q h → Out M0 M c 4 → WP mX1_fillBetween 42 [some (.ref c), some (.int (nI i)), some (.int (nI j)), some (.int x), some (.int (nI (max (i % 12) (j % 12)))), some (.int (nI (max (i / 12) (j / 12)))), some (.int (nI (cnt (flQ p x i j) (12 * r)))), some (.int (nI (r))), l8, l9] [] M z 0 0 (fun r M' z' => r = .inl (some (.int (nI (cnt (flQ p x i j) 144)))) ∧ CanvasAt M' c (flP p x i j 144) q h ∧ Out M0 M' c 4 ∧ z' = z) := by
  intro d
  induction d with
  | zero =>
    intro r M l8 l9 hd hl hC hO
    obtain rfl : r = max (i / 12) (j / 12) + 1 := by omega
    have hg : ∀ k, 12 * (max (i / 12) (j / 12) + 1) ≤ k → k < 144 → inR i j k = false := fun k k1 k2 => inR_f (Or.inr (Or.inr (Or.inr (by omega))))
    have eP := flP_gap (p := p) (x := x) (by omega) hg
    have eQ := flQ_gap (p := p) (x := x) (by omega) hg
    refine g_iload_7 dX1_fillBetween_42 ?_
    refine g_iload_5 dX1_fillBetween_44 ?_
    refine g_icmp_gtN (tgt := 111) dX1_fillBetween_46 (by decide) (by omega) (by omega) (fun _ => ?_) (fun h46 => absurd h46 (by omega))
    refine g_iload_6 dX1_fillBetween_111 ?_
    exact g_ireturn rfl rfl dX1_fillBetween_113 (Nat.le_of_ble_eq_true rfl) (Nat.le_of_ble_eq_true rfl) ⟨by rw [eQ], by rw [← eP] at hC; exact hC, hO, rfl⟩
  | succ d ih =>
    intro r M l8 l9 hd hl hC hO
    refine g_iload_7 dX1_fillBetween_42 ?_
    refine g_iload_5 dX1_fillBetween_44 ?_
    refine g_icmp_gtN (tgt := 111) dX1_fillBetween_46 (by decide) (by omega) (by omega) (fun h46 => absurd h46 (by omega)) (fun _ => ?_)
    refine g_iload_1 dX1_fillBetween_49 ?_
    refine g_bipush (v := nI 12) dX1_fillBetween_50 rfl ?_
    refine g_iremN dX1_fillBetween_52 (by omega) (by omega) (by omega) ?_
    refine g_iload_2 dX1_fillBetween_53 ?_
    refine g_bipush (v := nI 12) dX1_fillBetween_54 rfl ?_
    refine g_iremN dX1_fillBetween_56 (by omega) (by omega) (by omega) ?_
    refine g_s2_1 dX1_fillBetween_57 (sX1_40 rfl) rfl (Nat.le_of_ble_eq_true rfl) ⟨rfl, rfl⟩ (Nat.le_of_ble_eq_true rfl) (Nat.le_of_ble_eq_true rfl) (c_min (by omega) (by omega)) ?_
    refine g_istore_8 rfl dX1_fillBetween_60 ?_
    have hg : ∀ k, 12 * r ≤ k → k < 12 * r + min (i % 12) (j % 12) → inR i j k = false := fun k k1 k2 => inR_f (Or.inl (by omega))
    rw [← flP_gap (p := p) (x := x) (by omega) hg] at hC
    rw [← flQ_gap (p := p) (x := x) (by omega) hg]
    refine c_fill_in (M0 := M0) hi hj (by omega) (by omega) (fun M' l9 hC2 hO2 => ?_) (max (i % 12) (j % 12) + 1 - min (i % 12) (j % 12)) (min (i % 12) (j % 12)) M l9 (by omega) (Nat.le_refl _) hC hO
    have hg2 : ∀ k, 12 * r + (max (i % 12) (j % 12) + 1) ≤ k → k < 12 * (r + 1) → inR i j k = false := fun k k1 k2 => inR_f (Or.inr (Or.inl (by omega)))
    have hC3 := hC2
    rw [← flP_gap (by omega) hg2] at hC3
    rw [← flQ_gap (p := p) (x := x) (by omega) hg2]
    refine g_iincN_7 (q := 1) rfl dX1_fillBetween_105 rfl ?_
    refine g_goto (tgt := 42) dX1_fillBetween_108 (by decide) ?_
    exact ih (r + 1) M' _ l9 (by omega) (by omega) hC3 hO2
theorem c_fillBetween (hc : CanvasAt M c p q h) (hi : i < 144) (hj : j < 144) : Runs mX1_fillBetween [.ref c, .int (nI i), .int (nI j), .int x] M z (fun r M' z' => r = .inl (some (.int (nI (cnt (flQ p x i j) 144)))) ∧ CanvasAt M' c (flP p x i j 144) q h ∧ Out M M' c 4 ∧ z' = z) := by
  have hg : ∀ k, 0 ≤ k → k < 12 * min (i / 12) (j / 12) → inR i j k = false := fun k k1 k2 => inR_f (Or.inr (Or.inr (Or.inl (by omega))))
  have eP := flP_gap (p := p) (x := x) (by omega) hg
  have eQ := flQ_gap (p := p) (x := x) (by omega) hg
  have e0 : flP p x i j 0 = p := by funext k; simp [flP]
  refine runs_of plX1 rfl (Nat.le_of_ble_eq_true rfl) ?_
  show WP mX1_fillBetween 0 [some (.ref c), some (.int (nI i)), some (.int (nI j)), some (.int x), none, none, none, none, none, none] [] M z 0 0 _
  refine g_iload_1 dX1_fillBetween_0 ?_
  refine g_bipush (v := nI 12) dX1_fillBetween_1 rfl ?_
  refine g_iremN dX1_fillBetween_3 (by omega) (by omega) (by omega) ?_
  refine g_iload_2 dX1_fillBetween_4 ?_
  refine g_bipush (v := nI 12) dX1_fillBetween_5 rfl ?_
  refine g_iremN dX1_fillBetween_7 (by omega) (by omega) (by omega) ?_
  refine g_s2_1 dX1_fillBetween_8 (sX1_34 rfl) rfl (Nat.le_of_ble_eq_true rfl) ⟨rfl, rfl⟩ (Nat.le_of_ble_eq_true rfl) (Nat.le_of_ble_eq_true rfl) (c_max (by omega) (by omega)) ?_
  refine g_istore_4 rfl dX1_fillBetween_11 ?_
  refine g_iload_1 dX1_fillBetween_13 ?_
  refine g_bipush (v := nI 12) dX1_fillBetween_14 rfl ?_
  refine g_idivN dX1_fillBetween_16 (by omega) (by omega) (by omega) ?_
  refine g_iload_2 dX1_fillBetween_17 ?_
  refine g_bipush (v := nI 12) dX1_fillBetween_18 rfl ?_
  refine g_idivN dX1_fillBetween_20 (by omega) (by omega) (by omega) ?_
  refine g_s2_1 dX1_fillBetween_21 (sX1_34 rfl) rfl (Nat.le_of_ble_eq_true rfl) ⟨rfl, rfl⟩ (Nat.le_of_ble_eq_true rfl) (Nat.le_of_ble_eq_true rfl) (c_max (by omega) (by omega)) ?_
  refine g_istore_5 rfl dX1_fillBetween_24 ?_
  refine g_iconst (v := nI 0) dX1_fillBetween_26 rfl ?_
  refine g_istore_6 rfl dX1_fillBetween_27 ?_
  refine g_iload_1 dX1_fillBetween_29 ?_
  refine g_bipush (v := nI 12) dX1_fillBetween_30 rfl ?_
  refine g_idivN dX1_fillBetween_32 (by omega) (by omega) (by omega) ?_
  refine g_iload_2 dX1_fillBetween_33 ?_
  refine g_bipush (v := nI 12) dX1_fillBetween_34 rfl ?_
  refine g_idivN dX1_fillBetween_36 (by omega) (by omega) (by omega) ?_
  refine g_s2_1 dX1_fillBetween_37 (sX1_40 rfl) rfl (Nat.le_of_ble_eq_true rfl) ⟨rfl, rfl⟩ (Nat.le_of_ble_eq_true rfl) (Nat.le_of_ble_eq_true rfl) (c_min (by omega) (by omega)) ?_
  refine g_istore_7 rfl dX1_fillBetween_40 ?_
  have e := c_fill_out (M0 := M) (z := z) hi hj (max (i / 12) (j / 12) + 1 - min (i / 12) (j / 12)) (min (i / 12) (j / 12)) M none none (by omega) (Nat.le_refl _) (by rw [eP, e0]; exact hc) Out.rf
  rw [eQ] at e
  exact e
end P26
