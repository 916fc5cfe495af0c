section P28
variable {M M0 : Hp} {z c j i n : Nat} {p q h : Nat → Int32} {x : Int32} {Φ : GR → Hp → Nat → Prop}
theorem far_le (n k : Nat) (hn : n < 144) (hk : k < 144) : farF n k ≤ 22 := by unfold farF dst; omega
theorem c_rings_l (hn : n < 144) (hc : CanvasAt M c p q h) : ∀ d D l4, D + d = 23 → (∀ k, k < 144 → fitP p q x k = true → D ≤ farF n k) → WP mX1_nearestInRings 2 [some (.ref c), some (.int (nI n)), some (.int x), some (.int (nI (D))), l4] [] M z 0 0 (pE (IsNear (fitP p q x) (farF n)) M z) := by
  have hco := hc.1
  intro d
  induction d with
  | zero =>
    intro D l4 hd hv
    obtain rfl : D = 23 := by omega
    have hv : ∀ k, k < 144 → fitP p q x k = false := fun k k1 => by
      cases e : fitP p q x k with
      | false => rfl
      | true =>
        have e1 := hv k k1 e
        have e2 := far_le n k hn k1
        omega
    refine g_iload_3 dX1_nearestInRings_2 ?_
    refine g_bipush (v := nI 22) dX1_nearestInRings_3 rfl ?_
    refine g_icmp_gtN (tgt := 32) dX1_nearestInRings_5 (by decide) (by omega) (by omega) (fun _ => ?_) (fun h5 => absurd h5 (by omega))
    refine g_iconst (v := -1) dX1_nearestInRings_32 rfl ?_
    exact g_ireturn rfl rfl dX1_nearestInRings_33 (Nat.le_of_ble_eq_true rfl) (Nat.le_of_ble_eq_true rfl) ⟨_, Or.inl ⟨rfl, fun k hk => hv k hk⟩, rfl, rfl, rfl⟩
  | succ d ih =>
    intro D l4 hd hv
    refine g_iload_3 dX1_nearestInRings_2 ?_
    refine g_bipush (v := nI 22) dX1_nearestInRings_3 rfl ?_
    refine g_icmp_gtN (tgt := 32) dX1_nearestInRings_5 (by decide) (by omega) (by omega) (fun h5 => absurd h5 (by omega)) (fun _ => ?_)
    refine g_aload_0 dX1_nearestInRings_8 ?_
    refine g_iload_1 dX1_nearestInRings_9 ?_
    refine g_iload_3 dX1_nearestInRings_10 ?_
    refine g_iload_2 dX1_nearestInRings_11 ?_
    refine g_v3 dX1_nearestInRings_12 (vX1_58 rfl) rfl hco (Nat.le_of_ble_eq_true rfl) (Nat.le_of_ble_eq_true rfl) (Nat.le_of_ble_eq_true rfl) (c_firstInRing hn (by omega) hc) (fun r M2 z2 hq => ?_) (fun E M2 z2 hq => by obtain ⟨v, -, hq, -⟩ := hq; cases hq)
    obtain ⟨v, hv1, hr, rfl, rfl⟩ := hq
    cases hr
    refine g_istore_4 rfl dX1_nearestInRings_15 ?_
    refine g_iload_4 dX1_nearestInRings_17 ?_
    refine g_iconst (v := -1) dX1_nearestInRings_19 rfl ?_
    refine g_icmp_eq (tgt := 26) dX1_nearestInRings_20 (by decide)  (fun h20 => ?_) (fun h20 => ?_)
    · have hne : ∀ k, k < 144 → fitP p q x k = true → farF n k ≠ D := by
        rcases hv1 with ⟨g1, g2⟩ | ⟨b, g1, g2, g3, g4, g5⟩
        · exact g2
        · rw [g2] at h20; exact absurd h20 (nI_nm1 (by omega))
      refine g_iincN_3 (q := 1) rfl dX1_nearestInRings_26 rfl ?_
      refine g_goto (tgt := 2) dX1_nearestInRings_29 (by decide) ?_
      exact ih (D + 1) _ (by omega) (fun k k1 k2 => by
        have e1 := hv k k1 k2
        have e2 := hne k k1 k2
        omega)
    · refine g_iload_4 dX1_nearestInRings_23 ?_
      exact g_ireturn rfl rfl dX1_nearestInRings_25 (Nat.le_of_ble_eq_true rfl) (Nat.le_of_ble_eq_true rfl) (by
  rcases hv1 with ⟨g1, g2⟩ | ⟨b, g1, g2, g3, g4, g5⟩
  · exact absurd g1 h20
  · refine ⟨_, Or.inr ⟨b, g1, g2, g3, fun k k1 k2 => ?_⟩, rfl, rfl, rfl⟩
    have e1 := hv k k1 k2
    by_cases e : farF n k = D
    · exact Or.inr ⟨by omega, g5 k k1 k2 e⟩
    · exact Or.inl (by omega))
theorem c_nearestInRings (hn : n < 144) (hc : CanvasAt M c p q h) : Runs mX1_nearestInRings [.ref c, .int (nI n), .int x] M z (pE (IsNear (fitP p q x) (farF n)) M z) := by
  refine runs_of plX1 rfl (Nat.le_of_ble_eq_true rfl) ?_
  show WP mX1_nearestInRings 0 [some (.ref c), some (.int (nI n)), some (.int x), none, none] [] M z 0 0 _
  refine g_iconst (v := nI 0) dX1_nearestInRings_0 rfl ?_
  refine g_istore_3 rfl dX1_nearestInRings_1 ?_
  exact c_rings_l hn hc 23 0 none rfl (fun k _ _ => Nat.zero_le _)
def NearTo (P : Nat → Bool) (far : Nat → Nat) (i : Nat) (v : Int32) (l : Nat) : Prop := (v = -1 ∧ l = 24 ∧ ∀ k, k < i → P k = false) ∨ ∃ b, b < i ∧ v = nI b ∧ l = far b ∧ P b = true ∧ ∀ k, k < i → P k = true → far b < far k ∨ (far b = far k ∧ b ≤ k)
theorem NearTo.keep {P : Nat → Bool} {far : Nat → Nat} {i : Nat} {v : Int32} {l : Nat} (h : NearTo P far i v l) (hi : P i = true → l ≤ far i) (h24 : P i = true → far i < 24) : NearTo P far (i + 1) v l := by
  rcases h with ⟨g1, g2, g3⟩ | ⟨b, g1, g2, g3, g4, g5⟩
  · refine Or.inl ⟨g1, g2, fun k hk => ?_⟩
    by_cases e : k = i
    · subst e
      cases q : P k with
      | false => rfl
      | true => have := hi q; have := h24 q; omega
    · exact g3 k (by omega)
  · refine Or.inr ⟨b, by omega, g2, g3, g4, fun k hk hp => ?_⟩
    by_cases e : k = i
    · subst e
      have := hi hp
      omega
    · exact g5 k (by omega) hp
theorem NearTo.take {P : Nat → Bool} {far : Nat → Nat} {i : Nat} {v : Int32} {l : Nat} (h : NearTo P far i v l) (hp : P i = true) (hi : far i < l) : NearTo P far (i + 1) (nI i) (far i) := by
  refine Or.inr ⟨i, by omega, rfl, rfl, hp, fun k hk hp => ?_⟩
  by_cases e : k = i
  · subst e; omega
  · rcases h with ⟨g1, g2, g3⟩ | ⟨b, g1, g2, g3, g4, g5⟩
    · rw [g3 k (by omega)] at hp; cases hp
    · have := g5 k (by omega) hp
      omega
theorem NearTo.lt {P : Nat → Bool} {far : Nat → Nat} {i : Nat} {v : Int32} {l : Nat} (h : NearTo P far i v l) (hf : ∀ k, k < i → far k ≤ 22) : l ≤ 24 := by
  rcases h with ⟨g1, g2, g3⟩ | ⟨b, g1, g2, g3, g4, g5⟩
  · omega
  · have := hf b g1; omega
theorem NearTo.fin {P : Nat → Bool} {far : Nat → Nat} {v : Int32} {l : Nat} (h : NearTo P far 144 v l) : IsNear P far v := by
  rcases h with ⟨g1, g2, g3⟩ | ⟨b, g1, g2, g3, g4, g5⟩
  · exact Or.inl ⟨g1, g3⟩
  · exact Or.inr ⟨b, g1, g2, g4, g5⟩
theorem c_cells_l (hn : n < 144) (hc : CanvasAt M c p q h) : ∀ d i v l l6, i + d = 144 → NearTo (fitP p q x) (farF n) i v l → WP mX1_nearestInCells 9 [some (.ref c), some (.int (nI n)), some (.int x), some (.int (v)), some (.int (nI (l))), some (.int (nI (i))), l6] [] M z 0 0 (pE (IsNear (fitP p q x) (farF n)) M z) := by
  have hc0 := hc
  obtain ⟨hco, h1, h2, h3⟩ := hc
  intro d
  induction d with
  | zero =>
    intro i v l l6 hd hv
    obtain rfl : i = 144 := by omega
    refine g_iload_5 dX1_nearestInCells_9 ?_
    refine g_sipush (v := nI 144) dX1_nearestInCells_11 rfl ?_
    refine g_icmp_geN (tgt := 86) dX1_nearestInCells_14 (by decide) (by omega) (by omega) (fun _ => ?_) (fun h14 => absurd h14 (by omega))
    refine g_iload_3 dX1_nearestInCells_86 ?_
    exact g_ireturn rfl rfl dX1_nearestInCells_87 (Nat.le_of_ble_eq_true rfl) (Nat.le_of_ble_eq_true rfl) ⟨_, hv.fin, rfl, rfl, rfl⟩
  | succ d ih =>
    intro i v l l6 hd hv
    have hl := hv.lt (fun k hk => far_le n k hn (by omega))
    have hf := far_le n i hn (by omega)
    refine g_iload_5 dX1_nearestInCells_9 ?_
    refine g_sipush (v := nI 144) dX1_nearestInCells_11 rfl ?_
    refine g_icmp_geN (tgt := 86) dX1_nearestInCells_14 (by decide) (by omega) (by omega) (fun h14 => absurd h14 (by omega)) (fun _ => ?_)
    refine g_iload_5 dX1_nearestInCells_17 ?_
    refine g_bipush (v := nI 12) dX1_nearestInCells_19 rfl ?_
    refine g_iremN dX1_nearestInCells_21 (by omega) (by omega) (by omega) ?_
    refine g_iload_1 dX1_nearestInCells_22 ?_
    refine g_bipush (v := nI 12) dX1_nearestInCells_23 rfl ?_
    refine g_iremN dX1_nearestInCells_25 (by omega) (by omega) (by omega) ?_
    refine g_isub dX1_nearestInCells_26 ?_
    refine g_s1_1 dX1_nearestInCells_27 (sX1_62 rfl) rfl (Nat.le_of_ble_eq_true rfl) ⟨rfl, rfl⟩ (Nat.le_of_ble_eq_true rfl) (Nat.le_of_ble_eq_true rfl) (c_abs) ?_
    rw [absd (by omega) (by omega)]
    refine g_iload_5 dX1_nearestInCells_30 ?_
    refine g_bipush (v := nI 12) dX1_nearestInCells_32 rfl ?_
    refine g_idivN dX1_nearestInCells_34 (by omega) (by omega) (by omega) ?_
    refine g_iload_1 dX1_nearestInCells_35 ?_
    refine g_bipush (v := nI 12) dX1_nearestInCells_36 rfl ?_
    refine g_idivN dX1_nearestInCells_38 (by omega) (by omega) (by omega) ?_
    refine g_isub dX1_nearestInCells_39 ?_
    refine g_s1_1 dX1_nearestInCells_40 (sX1_62 rfl) rfl (Nat.le_of_ble_eq_true rfl) ⟨rfl, rfl⟩ (Nat.le_of_ble_eq_true rfl) (Nat.le_of_ble_eq_true rfl) (c_abs) ?_
    rw [absd (by omega) (by omega)]
    refine g_iaddN dX1_nearestInCells_43 ?_
    rw [show dst (i % 12) (n % 12) + dst (i / 12) (n / 12) = farF n i from rfl]
    refine g_istore_6 rfl dX1_nearestInCells_44 ?_
    refine g_aload_0 dX1_nearestInCells_46 ?_
    refine g_get dX1_nearestInCells_47 (fX1_9 rfl) hco rfl ?_
    refine g_iload_5 dX1_nearestInCells_50 ?_
    refine g_ialdN dX1_nearestInCells_52 h1 (by omega) (by decide) ?_
    refine g_iload_2 dX1_nearestInCells_53 ?_
    refine g_icmp_ne (tgt := 80) dX1_nearestInCells_54 (by decide)  (fun h54 => ?_) (fun h54 => ?_)
    · refine g_iincN_5 (q := 1) rfl dX1_nearestInCells_80 rfl ?_
      refine g_goto (tgt := 9) dX1_nearestInCells_83 (by decide) ?_
      first
        | exact ih (i + 1) _ _ _ (by omega) (hv.take (by simp only [fitP]; rw [decide_eq_true h54, h63]; rfl) (by omega))
        | exact ih (i + 1) _ _ _ (by omega) (hv.take (by simp only [fitP]; rw [decide_eq_true (Decidable.not_not.mp h54), h63]; rfl) (by omega))
        | exact ih (i + 1) _ _ _ (by omega) (hv.keep (fun _ => by omega) (fun _ => by omega))
        | exact ih (i + 1) _ _ _ (by omega) (hv.keep (fun w => absurd w (by simp_all [fitP])) (fun _ => by omega))
    · refine g_aload_0 dX1_nearestInCells_57 ?_
      refine g_iload_5 dX1_nearestInCells_58 ?_
      refine g_v1_1 dX1_nearestInCells_60 (vX1_51 rfl) rfl hco (Nat.le_of_ble_eq_true rfl) ⟨rfl, rfl⟩ (Nat.le_of_ble_eq_true rfl) (Nat.le_of_ble_eq_true rfl) (c_missingAt hc0 (by omega)) ?_
      refine g_if_eqB (tgt := 80) dX1_nearestInCells_63 (by decide)  (fun h63 => ?_) (fun h63 => ?_)
      · refine g_iincN_5 (q := 1) rfl dX1_nearestInCells_80 rfl ?_
        refine g_goto (tgt := 9) dX1_nearestInCells_83 (by decide) ?_
        first
          | exact ih (i + 1) _ _ _ (by omega) (hv.take (by simp only [fitP]; rw [decide_eq_true h54, h63]; rfl) (by omega))
          | exact ih (i + 1) _ _ _ (by omega) (hv.take (by simp only [fitP]; rw [decide_eq_true (Decidable.not_not.mp h54), h63]; rfl) (by omega))
          | exact ih (i + 1) _ _ _ (by omega) (hv.keep (fun _ => by omega) (fun _ => by omega))
          | exact ih (i + 1) _ _ _ (by omega) (hv.keep (fun w => absurd w (by simp_all [fitP])) (fun _ => by omega))
      · refine g_iload_6 dX1_nearestInCells_66 ?_
        refine g_iload_4 dX1_nearestInCells_68 ?_
        refine g_icmp_geN (tgt := 80) dX1_nearestInCells_70 (by decide) (by omega) (by omega) (fun h70 => ?_) (fun h70 => ?_)
        · refine g_iincN_5 (q := 1) rfl dX1_nearestInCells_80 rfl ?_
          refine g_goto (tgt := 9) dX1_nearestInCells_83 (by decide) ?_
          first
            | exact ih (i + 1) _ _ _ (by omega) (hv.take (by simp only [fitP]; rw [decide_eq_true h54, h63]; rfl) (by omega))
            | exact ih (i + 1) _ _ _ (by omega) (hv.take (by simp only [fitP]; rw [decide_eq_true (Decidable.not_not.mp h54), h63]; rfl) (by omega))
            | exact ih (i + 1) _ _ _ (by omega) (hv.keep (fun _ => by omega) (fun _ => by omega))
            | exact ih (i + 1) _ _ _ (by omega) (hv.keep (fun w => absurd w (by simp_all [fitP])) (fun _ => by omega))
        · refine g_iload_5 dX1_nearestInCells_73 ?_
          refine g_istore_3 rfl dX1_nearestInCells_75 ?_
          refine g_iload_6 dX1_nearestInCells_76 ?_
          refine g_istore_4 rfl dX1_nearestInCells_78 ?_
          refine g_iincN_5 (q := 1) rfl dX1_nearestInCells_80 rfl ?_
          refine g_goto (tgt := 9) dX1_nearestInCells_83 (by decide) ?_
          first
            | exact ih (i + 1) _ _ _ (by omega) (hv.take (by simp only [fitP]; rw [decide_eq_true h54, h63]; rfl) (by omega))
            | exact ih (i + 1) _ _ _ (by omega) (hv.take (by simp only [fitP]; rw [decide_eq_true (Decidable.not_not.mp h54), h63]; rfl) (by omega))
            | exact ih (i + 1) _ _ _ (by omega) (hv.keep (fun _ => by omega) (fun _ => by omega))
            | exact ih (i + 1) _ _ _ (by omega) (hv.keep (fun w => absurd w (by simp_all [fitP])) (fun _ => by omega))
theorem c_nearestInCells (hn : n < 144) (hc : CanvasAt M c p q h) : Runs mX1_nearestInCells [.ref c, .int (nI n), .int x] M z (pE (IsNear (fitP p q x) (farF n)) M z) := by
  refine runs_of plX1 rfl (Nat.le_of_ble_eq_true rfl) ?_
  show WP mX1_nearestInCells 0 [some (.ref c), some (.int (nI n)), some (.int x), none, none, none, none] [] M z 0 0 _
  refine g_iconst (v := -1) dX1_nearestInCells_0 rfl ?_
  refine g_istore_3 rfl dX1_nearestInCells_1 ?_
  refine g_bipush (v := nI 24) dX1_nearestInCells_2 rfl ?_
  refine g_istore_4 rfl dX1_nearestInCells_4 ?_
  refine g_iconst (v := nI 0) dX1_nearestInCells_6 rfl ?_
  refine g_istore_5 rfl dX1_nearestInCells_7 ?_
  exact c_cells_l hn hc 144 0 (-1) 24 none rfl (Or.inl ⟨rfl, rfl, fun k hk => absurd hk (by omega)⟩)
end P28
