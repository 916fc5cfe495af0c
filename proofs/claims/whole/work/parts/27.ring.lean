section P27
variable {M M0 : Hp} {z c j i n : Nat} {p q h : Nat → Int32} {x : Int32} {Φ : GR → Hp → Nat → Prop}
def dst (a b : Nat) : Nat := (a - b) + (b - a)
theorem absd {a b : Nat} (ha : a < 2 ^ 30) (hb : b < 2 ^ 30) : (if 0 ≤ nI a - nI b then nI a - nI b else 0 - (nI a - nI b)) = nI (dst a b) := by
  unfold dst
  by_cases h : b ≤ a
  · rw [pk_sub h, if_pos (nI_pos' (by omega)), show b - a = 0 by omega]; rfl
  · rw [if_neg, show a - b = 0 by omega, Nat.zero_add, ← pk_sub (show a ≤ b by omega)]
    · apply Int32.toInt_inj.mp
      rw [Int32.toInt_sub, pk_sub_toInt ha hb, pk_sub_toInt hb ha, Int32.toInt_zero]
      rw [Int.bmod_eq_of_le] <;> omega
    · rw [Int32.le_iff_toInt_le, pk_sub_toInt ha hb, Int32.toInt_zero]
      omega
theorem sub_neg {a b : Nat} (ha : a < 2 ^ 30) (hb : b < 2 ^ 30) : nI a - nI b < 0 ↔ a < b := by
  rw [Int32.lt_iff_toInt_lt, pk_sub_toInt ha hb, Int32.toInt_zero]
  omega
def farF (n k : Nat) : Nat := dst (k % 12) (n % 12) + dst (k / 12) (n / 12)
/-- the nearest of some cells, the first of these -/
def IsNear (P : Nat → Bool) (far : Nat → Nat) (v : Int32) : Prop := (v = -1 ∧ ∀ k, k < 144 → P k = false) ∨ ∃ b, b < 144 ∧ v = nI b ∧ P b = true ∧ ∀ k, k < 144 → P k = true → far b < far k ∨ (far b = far k ∧ b ≤ k)
theorem IsNear.uniq {P : Nat → Bool} {far : Nat → Nat} {v w : Int32} (h1 : IsNear P far v) (h2 : IsNear P far w) : v = w := by
  rcases h1 with ⟨a1, a2⟩ | ⟨b, b1, b2, b3, b4⟩
  · rcases h2 with ⟨c1, c2⟩ | ⟨b', c1, c2, c3, c4⟩
    · rw [a1, c1]
    · rw [a2 _ c1] at c3; cases c3
  · rcases h2 with ⟨c1, c2⟩ | ⟨b', c1, c2, c3, c4⟩
    · rw [c2 _ b1] at b3; cases b3
    · have e1 := b4 _ c1 c3
      have e2 := c4 _ b1 b3
      have : b = b' := by omega
      rw [b2, c2, this]
def pE (Q : Int32 → Prop) (M : Hp) (z : Nat) : GR → Hp → Nat → Prop := fun r M' z' => ∃ v, Q v ∧ r = .inl (some (.int v)) ∧ M' = M ∧ z' = z
def fitP (p q : Row) (x : Int32) : Nat → Bool := fun k => decide (p k = x) && missB p q k
theorem c_missIn {r col : Nat} (hc : CanvasAt M c p q h) (hr : r < 12) (hcol : col < 12) : Runs mX1_missesAt [.ref c, .int (nI col), .int (nI r), .int x] M z (gD (some (.int (bI (fitP p q x (12 * r + col))))) M z) := by
  have hco := hc.1
  refine runs_of plX1 rfl (Nat.le_of_ble_eq_true rfl) ?_
  show WP mX1_missesAt 0 [some (.ref c), some (.int (nI col)), some (.int (nI r)), some (.int x), none] [] M z 0 0 _
  refine g_bipush (v := nI 12) dX1_missesAt_0 rfl ?_
  refine g_iload_2 dX1_missesAt_2 ?_
  refine g_imulN dX1_missesAt_3 ?_
  refine g_iload_1 dX1_missesAt_4 ?_
  refine g_iaddN dX1_missesAt_5 ?_
  refine g_istore_4 rfl dX1_missesAt_6 ?_
  refine g_iload_1 dX1_missesAt_8 ?_
  refine g_if_ltN (tgt := 41) dX1_missesAt_9 (by decide) (by omega) ?_
  refine g_iload_1 dX1_missesAt_12 ?_
  refine g_bipush (v := nI 12) dX1_missesAt_13 rfl ?_
  refine g_icmp_geN (tgt := 41) dX1_missesAt_15 (by decide) (by omega) (by omega) (fun h15 => absurd h15 (by omega)) (fun _ => ?_)
  refine g_aload_0 dX1_missesAt_18 ?_
  refine g_iload_4 dX1_missesAt_19 ?_
  refine g_v1_1 dX1_missesAt_21 (vX1_27 rfl) rfl hco (Nat.le_of_ble_eq_true rfl) ⟨rfl, rfl⟩ (Nat.le_of_ble_eq_true rfl) (Nat.le_of_ble_eq_true rfl) (c_planAt hc (by omega)) ?_
  refine g_iload_3 dX1_missesAt_24 ?_
  refine g_icmp_ne (tgt := 41) dX1_missesAt_25 (by decide)  (fun h25 => ?_) (fun h25 => ?_)
  · refine g_iconst (v := nI 0) dX1_missesAt_41 rfl ?_
    exact g_ireturn rfl rfl dX1_missesAt_42 (Nat.le_of_ble_eq_true rfl) (Nat.le_of_ble_eq_true rfl) (gDi (by first | exact gBt (by simp_all [fitP]) | exact gBf (by simp_all [fitP])))
  · refine g_aload_0 dX1_missesAt_28 ?_
    refine g_iload_4 dX1_missesAt_29 ?_
    refine g_v1_1 dX1_missesAt_31 (vX1_51 rfl) rfl hco (Nat.le_of_ble_eq_true rfl) ⟨rfl, rfl⟩ (Nat.le_of_ble_eq_true rfl) (Nat.le_of_ble_eq_true rfl) (c_missingAt hc (by omega)) ?_
    refine g_if_eqB (tgt := 41) dX1_missesAt_34 (by decide)  (fun h34 => ?_) (fun h34 => ?_)
    · refine g_iconst (v := nI 0) dX1_missesAt_41 rfl ?_
      exact g_ireturn rfl rfl dX1_missesAt_42 (Nat.le_of_ble_eq_true rfl) (Nat.le_of_ble_eq_true rfl) (gDi (by first | exact gBt (by simp_all [fitP]) | exact gBf (by simp_all [fitP])))
    · refine g_iconst (v := nI 1) dX1_missesAt_37 rfl ?_
      refine g_goto (tgt := 42) dX1_missesAt_38 (by decide) ?_
      exact g_ireturn rfl rfl dX1_missesAt_42 (Nat.le_of_ble_eq_true rfl) (Nat.le_of_ble_eq_true rfl) (gDi (by first | exact gBt (by simp_all [fitP]) | exact gBf (by simp_all [fitP])))
theorem c_missBig {r col : Nat} (hc : CanvasAt M c p q h) (hr : r < 12) (hcol : 12 ≤ col) (h31 : col < 1000) : Runs mX1_missesAt [.ref c, .int (nI col), .int (nI r), .int x] M z (gD (some (.int (bI false))) M z) := by
  refine runs_of plX1 rfl (Nat.le_of_ble_eq_true rfl) ?_
  show WP mX1_missesAt 0 [some (.ref c), some (.int (nI col)), some (.int (nI r)), some (.int x), none] [] M z 0 0 _
  refine g_bipush (v := nI 12) dX1_missesAt_0 rfl ?_
  refine g_iload_2 dX1_missesAt_2 ?_
  refine g_imulN dX1_missesAt_3 ?_
  refine g_iload_1 dX1_missesAt_4 ?_
  refine g_iaddN dX1_missesAt_5 ?_
  refine g_istore_4 rfl dX1_missesAt_6 ?_
  refine g_iload_1 dX1_missesAt_8 ?_
  refine g_if_ltN (tgt := 41) dX1_missesAt_9 (by decide) (by omega) ?_
  refine g_iload_1 dX1_missesAt_12 ?_
  refine g_bipush (v := nI 12) dX1_missesAt_13 rfl ?_
  refine g_icmp_geN (tgt := 41) dX1_missesAt_15 (by decide) (by omega) (by omega) (fun _ => ?_) (fun h15 => absurd h15 (by omega))
  refine g_iconst (v := nI 0) dX1_missesAt_41 rfl ?_
  exact g_ireturn rfl rfl dX1_missesAt_42 (Nat.le_of_ble_eq_true rfl) (Nat.le_of_ble_eq_true rfl) (gDb rfl)
theorem c_missNeg {r : Nat} {y : Int32} (hc : CanvasAt M c p q h) (hr : r < 12) (hy : y < 0) : Runs mX1_missesAt [.ref c, .int (y), .int (nI r), .int x] M z (gD (some (.int (bI false))) M z) := by
  refine runs_of plX1 rfl (Nat.le_of_ble_eq_true rfl) ?_
  show WP mX1_missesAt 0 [some (.ref c), some (.int (y)), some (.int (nI r)), some (.int x), none] [] M z 0 0 _
  refine g_bipush (v := nI 12) dX1_missesAt_0 rfl ?_
  refine g_iload_2 dX1_missesAt_2 ?_
  refine g_imulN dX1_missesAt_3 ?_
  refine g_iload_1 dX1_missesAt_4 ?_
  refine g_iadd dX1_missesAt_5 ?_
  refine g_istore_4 rfl dX1_missesAt_6 ?_
  refine g_iload_1 dX1_missesAt_8 ?_
  refine g_if_lt (tgt := 41) dX1_missesAt_9 (by decide)  (fun _ => ?_) (fun h9 => absurd hy h9)
  refine g_iconst (v := nI 0) dX1_missesAt_41 rfl ?_
  exact g_ireturn rfl rfl dX1_missesAt_42 (Nat.le_of_ble_eq_true rfl) (Nat.le_of_ble_eq_true rfl) (gDb rfl)
def mL (P : Nat → Bool) (r a b : Nat) : Bool := if b ≤ a then P (12 * r + (a - b)) else false
def mR (P : Nat → Bool) (r a b : Nat) : Bool := if a + b < 12 then P (12 * r + (a + b)) else false
theorem c_missL {r a b : Nat} (hc : CanvasAt M c p q h) (hr : r < 12) (ha : a < 12) (hb : b < 1000) : Runs mX1_missesAt [.ref c, .int (nI a - nI b), .int (nI r), .int x] M z (gD (some (.int (bI (mL (fitP p q x) r a b)))) M z) := by
  unfold mL
  by_cases h1 : b ≤ a
  · rw [if_pos h1, pk_sub h1]; exact c_missIn hc hr (by omega)
  · rw [if_neg h1]; exact c_missNeg hc hr ((sub_neg (by omega) (by omega)).mpr (by omega))
theorem c_missR {r a b : Nat} (hc : CanvasAt M c p q h) (hr : r < 12) (ha : a < 12) (hb : b < 900) : Runs mX1_missesAt [.ref c, .int (nI (a + b)), .int (nI r), .int x] M z (gD (some (.int (bI (mR (fitP p q x) r a b)))) M z) := by
  unfold mR
  by_cases h1 : a + b < 12
  · rw [if_pos h1]; exact c_missIn hc hr h1
  · rw [if_neg h1]; exact c_missBig hc hr (by omega) (by omega)
/-- the first of some cells so far -/
def IsRing (P : Nat → Bool) (far : Nat → Nat) (D : Nat) (v : Int32) : Prop := (v = -1 ∧ ∀ k, k < 144 → P k = true → far k ≠ D) ∨ ∃ b, b < 144 ∧ v = nI b ∧ P b = true ∧ far b = D ∧ ∀ k, k < 144 → P k = true → far k = D → b ≤ k
theorem ring_row {P : Nat → Bool} {n r D k : Nat} (hP : P k = true) (h1 : 12 * r ≤ k) (h2 : k < 12 * (r + 1)) (hd : farF n k = D) : dst r (n / 12) ≤ D ∧ ((D - dst r (n / 12) ≤ n % 12 ∧ k = 12 * r + (n % 12 - (D - dst r (n / 12))) ∧ mL P r (n % 12) (D - dst r (n / 12)) = true) ∨ (n % 12 + (D - dst r (n / 12)) < 12 ∧ k = 12 * r + (n % 12 + (D - dst r (n / 12))) ∧ mR P r (n % 12) (D - dst r (n / 12)) = true)) := by
  have e : k / 12 = r := by omega
  unfold farF at hd
  rw [e] at hd
  refine ⟨by omega, ?_⟩
  generalize hA : D - dst r (n / 12) = A
  have hA2 : dst (k % 12) (n % 12) = A := by omega
  unfold dst at hA2
  by_cases hs : k % 12 ≤ n % 12
  · refine Or.inl ⟨by omega, by omega, ?_⟩
    unfold mL
    rw [if_pos (by omega), show 12 * r + (n % 12 - A) = k by omega]
    exact hP
  · refine Or.inr ⟨by omega, by omega, ?_⟩
    unfold mR
    rw [if_pos (by omega), show 12 * r + (n % 12 + A) = k by omega]
    exact hP
theorem c_ring_l {D : Nat} (hn : n < 144) (hD : D < 100) (hc : CanvasAt M c p q h) : ∀ d r l5, r + d = 12 → (∀ k, k < 12 * r → fitP p q x k = true → farF n k ≠ D) → WP mX1_firstInRing 3 [some (.ref c), some (.int (nI n)), some (.int (nI D)), some (.int x), some (.int (nI (r))), l5] [] M z 0 0 (pE (IsRing (fitP p q x) (farF n) D) M z) := by
  have hco := hc.1
  intro d
  induction d with
  | zero =>
    intro r l5 hd hv
    obtain rfl : r = 12 := by omega
    refine g_iload_4 dX1_firstInRing_3 ?_
    refine g_bipush (v := nI 12) dX1_firstInRing_5 rfl ?_
    refine g_icmp_geN (tgt := 97) dX1_firstInRing_7 (by decide) (by omega) (by omega) (fun _ => ?_) (fun h7 => absurd h7 (by omega))
    refine g_iconst (v := -1) dX1_firstInRing_97 rfl ?_
    exact g_ireturn rfl rfl dX1_firstInRing_98 (Nat.le_of_ble_eq_true rfl) (Nat.le_of_ble_eq_true rfl) ⟨_, Or.inl ⟨rfl, fun k hk => hv k (by omega)⟩, rfl, rfl, rfl⟩
  | succ d ih =>
    intro r l5 hd hv
    have hdl : dst r (n / 12) < 1000 := by unfold dst; omega
    refine g_iload_4 dX1_firstInRing_3 ?_
    refine g_bipush (v := nI 12) dX1_firstInRing_5 rfl ?_
    refine g_icmp_geN (tgt := 97) dX1_firstInRing_7 (by decide) (by omega) (by omega) (fun h7 => absurd h7 (by omega)) (fun _ => ?_)
    refine g_iload_2 dX1_firstInRing_10 ?_
    refine g_iload_4 dX1_firstInRing_11 ?_
    refine g_iload_1 dX1_firstInRing_13 ?_
    refine g_bipush (v := nI 12) dX1_firstInRing_14 rfl ?_
    refine g_idivN dX1_firstInRing_16 (by omega) (by omega) (by omega) ?_
    refine g_isub dX1_firstInRing_17 ?_
    refine g_s1_1 dX1_firstInRing_18 (sX1_62 rfl) rfl (Nat.le_of_ble_eq_true rfl) ⟨rfl, rfl⟩ (Nat.le_of_ble_eq_true rfl) (Nat.le_of_ble_eq_true rfl) (c_abs) ?_
    rw [absd (by omega) (by omega)]
    refine g_isub dX1_firstInRing_21 ?_
    refine g_istore_5 rfl dX1_firstInRing_22 ?_
    refine g_iload_5 dX1_firstInRing_24 ?_
    refine g_if_lt (tgt := 91) dX1_firstInRing_26 (by decide)  (fun h26 => ?_) (fun h26 => ?_)
    · have hgt := (sub_neg (by omega) (by unfold dst; omega)).mp h26
      have hrow : ∀ k, 12 * r ≤ k → k < 12 * (r + 1) → fitP p q x k = true → farF n k ≠ D := fun k k1 k2 k3 k4 => by have := (ring_row k3 k1 k2 k4).1; omega
      refine g_iincN_4 (q := 1) rfl dX1_firstInRing_91 rfl ?_
      refine g_goto (tgt := 3) dX1_firstInRing_94 (by decide) ?_
      exact ih (r + 1) _ (by omega) (fun k k1 k2 => by
        by_cases hk : k < 12 * r
        · exact hv k hk k2
        · exact hrow k (by omega) k1 k2)
    · have hle : dst r (n / 12) ≤ D := Nat.not_lt.mp (fun w => h26 ((sub_neg (by omega) (by unfold dst; omega)).mpr w))
      rw [pk_sub hle]
      refine g_aload_0 dX1_firstInRing_29 ?_
      refine g_iload_1 dX1_firstInRing_30 ?_
      refine g_bipush (v := nI 12) dX1_firstInRing_31 rfl ?_
      refine g_iremN dX1_firstInRing_33 (by omega) (by omega) (by omega) ?_
      refine g_iload_5 dX1_firstInRing_34 ?_
      refine g_isub dX1_firstInRing_36 ?_
      refine g_iload_4 dX1_firstInRing_37 ?_
      refine g_iload_3 dX1_firstInRing_39 ?_
      refine g_v3_1 dX1_firstInRing_40 (vX1_65 rfl) rfl hco (Nat.le_of_ble_eq_true rfl) ⟨rfl, rfl⟩ (Nat.le_of_ble_eq_true rfl) (Nat.le_of_ble_eq_true rfl) (c_missL hc (by omega) (by omega) (by omega)) ?_
      refine g_if_eqB (tgt := 60) dX1_firstInRing_43 (by decide)  (fun h43 => ?_) (fun h43 => ?_)
      · refine g_aload_0 dX1_firstInRing_60 ?_
        refine g_iload_1 dX1_firstInRing_61 ?_
        refine g_bipush (v := nI 12) dX1_firstInRing_62 rfl ?_
        refine g_iremN dX1_firstInRing_64 (by omega) (by omega) (by omega) ?_
        refine g_iload_5 dX1_firstInRing_65 ?_
        refine g_iaddN dX1_firstInRing_67 ?_
        refine g_iload_4 dX1_firstInRing_68 ?_
        refine g_iload_3 dX1_firstInRing_70 ?_
        refine g_v3_1 dX1_firstInRing_71 (vX1_65 rfl) rfl hco (Nat.le_of_ble_eq_true rfl) ⟨rfl, rfl⟩ (Nat.le_of_ble_eq_true rfl) (Nat.le_of_ble_eq_true rfl) (c_missR hc (by omega) (by omega) (by omega)) ?_
        refine g_if_eqB (tgt := 91) dX1_firstInRing_74 (by decide)  (fun h74 => ?_) (fun h74 => ?_)
        · have hrow : ∀ k, 12 * r ≤ k → k < 12 * (r + 1) → fitP p q x k = true → farF n k ≠ D := fun k k1 k2 k3 k4 => by
            rcases (ring_row k3 k1 k2 k4).2 with ⟨g1, g2, g3⟩ | ⟨g1, g2, g3⟩
            · rw [h43] at g3; cases g3
            · rw [h74] at g3; cases g3
          refine g_iincN_4 (q := 1) rfl dX1_firstInRing_91 rfl ?_
          refine g_goto (tgt := 3) dX1_firstInRing_94 (by decide) ?_
          exact ih (r + 1) _ (by omega) (fun k k1 k2 => by
            by_cases hk : k < 12 * r
            · exact hv k hk k2
            · exact hrow k (by omega) k1 k2)
        · refine g_bipush (v := nI 12) dX1_firstInRing_77 rfl ?_
          refine g_iload_4 dX1_firstInRing_79 ?_
          refine g_imulN dX1_firstInRing_81 ?_
          refine g_iload_1 dX1_firstInRing_82 ?_
          refine g_bipush (v := nI 12) dX1_firstInRing_83 rfl ?_
          refine g_iremN dX1_firstInRing_85 (by omega) (by omega) (by omega) ?_
          refine g_iaddN dX1_firstInRing_86 ?_
          refine g_iload_5 dX1_firstInRing_87 ?_
          refine g_iaddN dX1_firstInRing_89 ?_
          exact g_ireturn rfl rfl dX1_firstInRing_90 (Nat.le_of_ble_eq_true rfl) (Nat.le_of_ble_eq_true rfl) (by
  unfold mR at h74
  split at h74
  · next hb =>
    refine ⟨_, Or.inr ⟨12 * r + n % 12 + (D - dst r (n / 12)), by omega, rfl, by rw [show 12 * r + n % 12 + (D - dst r (n / 12)) = 12 * r + (n % 12 + (D - dst r (n / 12))) by omega]; exact h74, ?_, fun k k1 k2 k3 => ?_⟩, rfl, rfl, rfl⟩
    · unfold farF
      rw [show (12 * r + n % 12 + (D - dst r (n / 12))) / 12 = r by omega, show (12 * r + n % 12 + (D - dst r (n / 12))) % 12 = n % 12 + (D - dst r (n / 12)) by omega]
      show (_ - _) + (_ - _) + _ = _
      omega
    · by_cases hk : k < 12 * r
      · exact absurd k3 (hv k hk k2)
      · by_cases hk2 : k < 12 * (r + 1)
        · rcases (ring_row k2 (by omega) hk2 k3).2 with ⟨g1, g2, g3⟩ | ⟨g1, g2, g3⟩
          · rw [h43] at g3; cases g3
          · omega
        · omega
  · cases h74)
      · refine g_bipush (v := nI 12) dX1_firstInRing_46 rfl ?_
        refine g_iload_4 dX1_firstInRing_48 ?_
        refine g_imulN dX1_firstInRing_50 ?_
        refine g_iload_1 dX1_firstInRing_51 ?_
        refine g_bipush (v := nI 12) dX1_firstInRing_52 rfl ?_
        refine g_iremN dX1_firstInRing_54 (by omega) (by omega) (by omega) ?_
        refine g_iaddN dX1_firstInRing_55 ?_
        refine g_iload_5 dX1_firstInRing_56 ?_
        refine g_isub dX1_firstInRing_58 ?_
        exact g_ireturn rfl rfl dX1_firstInRing_59 (Nat.le_of_ble_eq_true rfl) (Nat.le_of_ble_eq_true rfl) (by
  unfold mL at h43
  split at h43
  · next hb =>
    rw [pk_sub (by omega)]
    refine ⟨_, Or.inr ⟨12 * r + n % 12 - (D - dst r (n / 12)), by omega, rfl, by rw [show 12 * r + n % 12 - (D - dst r (n / 12)) = 12 * r + (n % 12 - (D - dst r (n / 12))) by omega]; exact h43, ?_, fun k k1 k2 k3 => ?_⟩, rfl, rfl, rfl⟩
    · unfold farF
      rw [show (12 * r + n % 12 - (D - dst r (n / 12))) / 12 = r by omega, show (12 * r + n % 12 - (D - dst r (n / 12))) % 12 = n % 12 - (D - dst r (n / 12)) by omega]
      show (_ - _) + (_ - _) + _ = _
      omega
    · by_cases hk : k < 12 * r
      · exact absurd k3 (hv k hk k2)
      · by_cases hk2 : k < 12 * (r + 1)
        · rcases (ring_row k2 (by omega) hk2 k3).2 with ⟨g1, g2, g3⟩ | ⟨g1, g2, g3⟩ <;> omega
        · omega
  · cases h43)
theorem c_firstInRing {D : Nat} (hn : n < 144) (hD : D < 100) (hc : CanvasAt M c p q h) : Runs mX1_firstInRing [.ref c, .int (nI n), .int (nI D), .int x] M z (pE (IsRing (fitP p q x) (farF n) D) M z) := by
  refine runs_of plX1 rfl (Nat.le_of_ble_eq_true rfl) ?_
  show WP mX1_firstInRing 0 [some (.ref c), some (.int (nI n)), some (.int (nI D)), some (.int x), none, none] [] M z 0 0 _
  refine g_iconst (v := nI 0) dX1_firstInRing_0 rfl ?_
  refine g_istore_4 rfl dX1_firstInRing_1 ?_
  exact c_ring_l hn hD hc 12 0 none rfl (fun k hk => absurd hk (by omega))
end P27
