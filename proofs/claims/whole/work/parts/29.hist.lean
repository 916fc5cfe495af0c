section P29
variable {M M0 : Hp} {z lo a b r c j i n hb old cnt t x : Nat} {f g : Row} {P : Nat → Option Nat} {rows : Nat → Row} {fm : Nat → Option Nat} {Φ : GR → Hp → Nat → Prop}
/-- the places where Rugs are kept: 0 .. 13 the ring, 14 and 15 the slots -/
def Slots (M : Hp) (lo z : Nat) (P : Nat → Option Nat) (rows : Nat → Row) : Prop := ∀ i x, i < 16 → P i = some x → lo ≤ x ∧ x + 20 ≤ z ∧ RugF M x (rows i) ∧ ∀ j y, j < 16 → j ≠ i → P j = some y → x + 20 ≤ y ∨ y + 20 ≤ x
def updP (P : Nat → Option Nat) (i : Nat) (x : Nat) : Nat → Option Nat := fun k => if k = i then some x else P k
def updR (rows : Nat → Row) (i : Nat) (g : Row) : Nat → Row := fun k => if k = i then g else rows k
theorem updR_eq : updR rows i g i = g := if_pos rfl
theorem updR_ne (h : j ≠ i) : updR rows i g j = rows j := if_neg h
theorem updP_eq : updP P i x i = some x := if_pos rfl
theorem updP_ne (h : j ≠ i) : updP P i x j = P j := if_neg h
theorem RugF.keep {M' : Hp} (h : RugF M a f) (hq : ∀ b, a ≤ b → b < a + 20 → M' b = M b) : RugF M' a f := by
  obtain ⟨R, ln, sg, hA, hR⟩ := h
  exact ⟨R, ln, sg, hA.keep hq, hR⟩
theorem Slots.keep {M' : Hp} {z' : Nat} (h : Slots M lo z P rows) (hz : z ≤ z') (hq : ∀ b, lo ≤ b → b < z → M' b = M b) : Slots M' lo z' P rows := by
  intro i x hi hx
  obtain ⟨h1, h2, h3, h4⟩ := h i x hi hx
  exact ⟨h1, by omega, h3.keep (fun b b1 b2 => hq b (by omega) (by omega)), h4⟩
theorem Slots.put {M' : Hp} (h : Slots M lo z P rows) (hi : i < 16) (hx : P i = some x) (hO : Out M M' x 20) (hF : RugF M' x g) : Slots M' lo z P (updR rows i g) := by
  intro k y hk hy
  obtain ⟨h1, h2, h3, h4⟩ := h k y hk hy
  refine ⟨h1, h2, ?_, h4⟩
  by_cases e : k = i
  · subst e
    rw [updR_eq]
    rw [hx] at hy
    cases hy
    exact hF
  · rw [updR_ne e]
    exact h3.keep (fun b b1 b2 => hO b (by have := h4 i x hi (fun q => e q.symm) hx; omega))
theorem Slots.new {M' : Hp} (h : Slots M lo z P rows) (hlo : lo ≤ z) (hi : i < 16) (hx : P i = none) (hO : Out M M' z 20) (hF : RugF M' z g) : Slots M' lo (z + 20) (updP P i z) (updR rows i g) := by
  intro k y hk hy
  by_cases e : k = i
  · subst e
    rw [updP_eq] at hy
    cases hy
    refine ⟨hlo, Nat.le_refl _, by rw [updR_eq]; exact hF, fun j w hj hjk hw => ?_⟩
    rw [updP_ne hjk] at hw
    have := (h j w hj hw).2.1
    omega
  · rw [updP_ne e] at hy
    obtain ⟨h1, h2, h3, h4⟩ := h k y hk hy
    refine ⟨h1, by omega, by rw [updR_ne e]; exact h3.keep (fun b b1 b2 => hO b (by omega)), fun j w hj hjk hw => ?_⟩
    by_cases e2 : j = i
    · subst e2
      rw [updP_eq] at hw
      cases hw
      omega
    · rw [updP_ne e2] at hw
      exact h4 j w hj hjk hw
def HistAt (M : Hp) (hb old cnt : Nat) (fm : Nat → Option Nat) : Prop := M hb = some (.inr (2, [.ref (hb + 1), .int (nI old), .int (nI cnt)])) ∧ M (hb + 1) = some (aR 14 fm)
/-- what remembering leaves -/
def RemQ (M0 : Hp) (hb lo z old cnt : Nat) (P : Nat → Option Nat) (rows : Nat → Row) (f : Row) : GR → Hp → Nat → Prop := fun res M' z' => res = .inl none ∧ z ≤ z' ∧ (∃ (fm' P' : Nat → Option Nat) (x : Nat), HistAt M' hb old (cnt + 1) fm' ∧ (∀ s, s < 14 → fm' s = P' s) ∧ Slots M' lo z' P' (updR rows ((old + cnt) % 14) f) ∧ P' ((old + cnt) % 14) = some x ∧ ∀ s, s ≠ (old + cnt) % 14 → P' s = P s) ∧ ∀ q, q < lo → q ≠ hb → q ≠ hb + 1 → M' q = M0 q
theorem keep3 {M' : Hp} (hA : ∀ q, q ≠ hb → M' q = M q) {lo : Nat} (hlo : hb + 2 ≤ lo) (h : Slots M lo z P rows) : Slots M' lo z P rows := h.keep (Nat.le_refl _) (fun b b1 b2 => hA b (by omega))
theorem q_rem67 {P0 : Nat → Option Nat} {z0 : Nat} (hlo : hb + 2 ≤ lo) (hr : r + 20 ≤ lo) (hrd : r + 20 ≤ hb ∨ hb + 2 ≤ r) (hc : cnt < 14) (hH : HistAt M hb old cnt fm) (hfm : ∀ s, s < 14 → fm s = P s) (hS : Slots M lo z P rows) (hx : fm ((old + cnt) % 14) = some x) (hF : RugF M r f) (hM : ∀ q, q < lo → q ≠ hb → q ≠ hb + 1 → M q = M0 q) (hz : z0 ≤ z) (hP : ∀ s, s ≠ (old + cnt) % 14 → P s = P0 s) {k n : Nat} (hk : k ≤ gce mX2_remember) (hn : n ≤ gsl mX2_remember) : WP mX2_remember 67 [some (.ref hb), some (.ref r), some (.int (nI ((old + cnt) % 14)))] [] M z k n (RemQ M0 hb lo z0 old cnt P0 rows f) := by
  have ht : (old + cnt) % 14 < 14 := Nat.mod_lt _ (by decide)
  obtain ⟨x1, x2, hxF, x4⟩ := hS ((old + cnt) % 14) x (by omega) (by rw [← hfm _ ht]; exact hx)
  obtain ⟨_, hxo⟩ := hxF.ao
  refine g_aload_0 dX2_remember_67 ?_
  refine g_get dX2_remember_68 (fX2_11 rfl) hH.1 rfl ?_
  refine g_iload_2 dX2_remember_71 ?_
  refine g_aaldRN dX2_remember_72 hH.2 ht (by decide) (by rw [hx]) ?_
  refine g_aload_1 dX2_remember_73 ?_
  refine g_v1 dX2_remember_74 (vX2_29 rfl) rfl hxo (Nat.le_of_ble_eq_true rfl) hk hn (q_copyFrom hxF hF (by omega)) (fun r M2 z2 hq => ?_) (fun E M2 z2 hq => by obtain ⟨hq, -⟩ := hq; cases hq)
  obtain ⟨hr, hG, hO, rfl⟩ := hq
  cases hr
  have h0 := (hO _ (by omega)).trans hH.1
  have h1 := (hO _ (by omega)).trans hH.2
  have hS1 := hS.put (i := (old + cnt) % 14) (by omega) (by rw [← hfm _ ht]; exact hx) hO hG
  refine g_aload_0 dX2_remember_77 ?_
  refine g_dup dX2_remember_78 rfl ?_
  refine g_get dX2_remember_79 (fX2_15 rfl) h0 rfl ?_
  refine g_iconst (v := nI 1) dX2_remember_82 rfl ?_
  refine g_iaddN dX2_remember_83 ?_
  refine g_putQ dX2_remember_84 (fX2_15 rfl) h0 rfl rfl (Nat.le_of_ble_eq_true rfl) (fun M3 h0 n3 => ?_)
  exact g_return rfl dX2_remember_87 hk hn ⟨rfl, hz, ⟨fm, P, x, ⟨h0, (n3 _ (by omega)).trans h1⟩, hfm, keep3 n3 hlo hS1, by rw [← hfm _ ht]; exact hx, hP⟩, fun q q1 q2 q3 => (n3 q q2).trans ((hO q (by omega)).trans (hM q q1 q2 q3))⟩
theorem q_rem45s (hlo : hb + 2 ≤ lo) (hr : r + 20 ≤ lo) (hrd : r + 20 ≤ hb ∨ hb + 2 ≤ r) (hc : cnt < 14) (hH : HistAt M hb old cnt fm) (hfm : ∀ s, s < 14 → fm s = P s) (hS : Slots M lo z P rows) (hx : fm ((old + cnt) % 14) = some x) (hF : RugF M r f) (hM : ∀ q, q < lo → q ≠ hb → q ≠ hb + 1 → M q = M0 q) : WP mX2_remember 45 [some (.ref hb), some (.ref r), some (.int (nI ((old + cnt) % 14)))] [] M z 0 0 (RemQ M0 hb lo z old cnt P rows f) := by
  have ht : (old + cnt) % 14 < 14 := Nat.mod_lt _ (by decide)
  refine g_aload_0 dX2_remember_45 ?_
  refine g_get dX2_remember_46 (fX2_11 rfl) hH.1 rfl ?_
  refine g_iload_2 dX2_remember_49 ?_
  refine g_aaldRN dX2_remember_50 hH.2 ht (by decide) (by rw [hx]) ?_
  refine g_ifnonnull (tgt := 67) dX2_remember_51 (by decide) ?_
  exact q_rem67 hlo hr hrd hc hH hfm hS hx hF hM (Nat.le_refl _) (fun _ _ => rfl) (Nat.le_of_ble_eq_true rfl) (Nat.le_of_ble_eq_true rfl)
theorem q_rem45n (hlo : hb + 2 ≤ lo) (hr : r + 20 ≤ lo) (hrd : r + 20 ≤ hb ∨ hb + 2 ≤ r) (hc : cnt < 14) (hH : HistAt M hb old cnt fm) (hfm : ∀ s, s < 14 → fm s = P s) (hS : Slots M lo z P rows) (hx : fm ((old + cnt) % 14) = none) (hF : RugF M r f) (hM : ∀ q, q < lo → q ≠ hb → q ≠ hb + 1 → M q = M0 q) (hz : lo ≤ z) : WP mX2_remember 45 [some (.ref hb), some (.ref r), some (.int (nI ((old + cnt) % 14)))] [] M z 0 0 (RemQ M0 hb lo z old cnt P rows f) := by
  have ht : (old + cnt) % 14 < 14 := Nat.mod_lt _ (by decide)
  refine g_aload_0 dX2_remember_45 ?_
  refine g_get dX2_remember_46 (fX2_11 rfl) hH.1 rfl ?_
  refine g_iload_2 dX2_remember_49 ?_
  refine g_aaldRN dX2_remember_50 hH.2 ht (by decide) (by rw [hx]) ?_
  refine g_ifnonnullN dX2_remember_51 ?_
  refine g_aload_0 dX2_remember_54 ?_
  refine g_get dX2_remember_55 (fX2_11 rfl) hH.1 rfl ?_
  refine g_iload_2 dX2_remember_58 ?_
  refine g_newQ dX2_remember_59 (nX2_9 rfl) (Nat.le_of_ble_eq_true rfl) (Nat.le_of_ble_eq_true rfl) (fun M1 hN1 n1 => ?_)
  have h0 := (n1 _ (by omega)).trans hH.1
  have h1 := (n1 _ (by omega)).trans hH.2
  refine g_dup dX2_remember_62 rfl ?_
  refine g_i0 dX2_remember_63 (iX2_28 rfl) rfl (Nat.le_of_ble_eq_true rfl) (Nat.le_of_ble_eq_true rfl) (Nat.le_of_ble_eq_true rfl) (q_rugInit hN1) (fun r M2 z2 hq => ?_) (fun E M2 z2 hq => by obtain ⟨hq, -⟩ := hq; cases hq)
  obtain ⟨hr9, hG, hO, rfl⟩ := hq
  cases hr9
  have h0 := (hO _ (by omega)).trans h0
  have h1 := (hO _ (by omega)).trans h1
  obtain ⟨_, hgo⟩ := hG.ao
  refine g_aastQ (kd := 4) dX2_remember_66 (by decide) h1 rfl hgo rfl ht (by decide) (fun M3 h1 n3 => ?_)
  have h0 := (n3 _ (by omega)).trans h0
  have hS2 := hS.new (i := (old + cnt) % 14) (g := f00) hz (by omega) (by rw [← hfm _ ht]; exact hx) (fun b hb => (hO b hb).trans (n1 b (by omega))) hG
  have hS3 := hS2.keep (M' := M3) (Nat.le_refl _) (fun b b1 b2 => n3 b (by omega))
  have e := q_rem67 (M0 := M0) (P0 := P) (z0 := z) (fm := va_up fm ((old + cnt) % 14) (some z)) (x := z) (f := f) hlo hr hrd hc ⟨h0, h1⟩ (fun s hs => ?_) hS3 (by simp [va_up]) (hF.keep (fun b b1 b2 => (n3 b (by omega)).trans ((hO b (by omega)).trans (n1 b (by omega))))) (fun q q1 q2 q3 => (n3 q q3).trans ((hO q (by omega)).trans ((n1 q (by omega)).trans (hM q q1 q2 q3)))) (by omega) (fun s hs => updP_ne hs) (k := 20) (n := 966) (Nat.le_of_ble_eq_true rfl) (Nat.le_of_ble_eq_true rfl)
  · have er : updR (updR rows ((old + cnt) % 14) f00) ((old + cnt) % 14) f = updR rows ((old + cnt) % 14) f := by funext k; simp only [updR]; split <;> rfl
    unfold RemQ at e ⊢
    rw [er] at e
    exact e
  · simp only [va_up, updP]
    split
    · rfl
    · exact hfm s hs
theorem q_rem30 (hlo : hb + 2 ≤ lo) (hr : r + 20 ≤ lo) (hrd : r + 20 ≤ hb ∨ hb + 2 ≤ r) (hc : cnt < 14) (hH : HistAt M hb old cnt fm) (hfm : ∀ s, s < 14 → fm s = P s) (hS : Slots M lo z P rows) (hF : RugF M r f) (hM : ∀ q, q < lo → q ≠ hb → q ≠ hb + 1 → M q = M0 q) (ho : old < 14) (hz : lo ≤ z) : WP mX2_remember 30 [some (.ref hb), some (.ref r), none] [] M z 0 0 (RemQ M0 hb lo z old cnt P rows f) := by
  refine g_aload_0 dX2_remember_30 ?_
  refine g_get dX2_remember_31 (fX2_19 rfl) hH.1 rfl ?_
  refine g_aload_0 dX2_remember_34 ?_
  refine g_get dX2_remember_35 (fX2_15 rfl) hH.1 rfl ?_
  refine g_iaddN dX2_remember_38 ?_
  refine g_bipush (v := nI 14) dX2_remember_39 rfl ?_
  refine g_s2_1 dX2_remember_41 (sX2_22 rfl) rfl (Nat.le_of_ble_eq_true rfl) ⟨rfl, rfl⟩ (Nat.le_of_ble_eq_true rfl) (Nat.le_of_ble_eq_true rfl) (c_floorMod (by omega) (by decide) (by decide)) ?_
  refine g_istore_2 rfl dX2_remember_44 ?_
  have ht : (old + cnt) % 14 < 14 := Nat.mod_lt _ (by decide)
  cases hx : fm ((old + cnt) % 14) with
  | some x => exact q_rem45s hlo hr hrd hc hH hfm hS hx hF hM
  | none => exact q_rem45n hlo hr hrd hc hH hfm hS hx hF hM hz
theorem q_remember14 (hlo : hb + 2 ≤ lo) (hr : r + 20 ≤ lo) (hrd : r + 20 ≤ hb ∨ hb + 2 ≤ r) (hc : cnt = 14) (hH : HistAt M hb old cnt fm) (hfm : ∀ s, s < 14 → fm s = P s) (hS : Slots M lo z P rows) (hF : RugF M r f) (ho : old < 14) (hz : lo ≤ z) : Runs mX2_remember [.ref hb, .ref r] M z (RemQ M hb lo z ((old + 1) % 14) 13 P rows f) := by
  refine runs_of plX2 rfl (Nat.le_of_ble_eq_true rfl) ?_
  show WP mX2_remember 0 [some (.ref hb), some (.ref r), none] [] M z 0 0 _
  refine g_aload_0 dX2_remember_0 ?_
  refine g_get dX2_remember_1 (fX2_15 rfl) hH.1 rfl ?_
  refine g_bipush (v := nI 14) dX2_remember_4 rfl ?_
  refine g_icmp_ltN (tgt := 30) dX2_remember_6 (by decide) (by omega) (by omega) (fun h6 => absurd h6 (by omega)) (fun _ => ?_)
  refine g_aload_0 dX2_remember_9 ?_
  refine g_aload_0 dX2_remember_10 ?_
  refine g_get dX2_remember_11 (fX2_19 rfl) hH.1 rfl ?_
  refine g_iconst (v := nI 1) dX2_remember_14 rfl ?_
  refine g_iaddN dX2_remember_15 ?_
  refine g_bipush (v := nI 14) dX2_remember_16 rfl ?_
  refine g_s2_1 dX2_remember_18 (sX2_22 rfl) rfl (Nat.le_of_ble_eq_true rfl) ⟨rfl, rfl⟩ (Nat.le_of_ble_eq_true rfl) (Nat.le_of_ble_eq_true rfl) (c_floorMod (by omega) (by decide) (by decide)) ?_
  refine g_putQ dX2_remember_21 (fX2_19 rfl) hH.1 rfl rfl (Nat.le_of_ble_eq_true rfl) (fun M1 h0 n1 => ?_)
  refine g_aload_0 dX2_remember_24 ?_
  refine g_bipush (v := nI 13) dX2_remember_25 rfl ?_
  refine g_putQ dX2_remember_27 (fX2_15 rfl) h0 rfl rfl (Nat.le_of_ble_eq_true rfl) (fun M2 h0 n2 => ?_)
  have n12 : ∀ q, q ≠ hb → M2 q = M q := fun q hq => (n2 q hq).trans (n1 q hq)
  have e := q_rem30 (M0 := M) (old := (old + 1) % 14) (cnt := 13) (rows := rows) (f := f) hlo hr hrd (by decide) ⟨h0, (n12 _ (by omega)).trans hH.2⟩ hfm (keep3 n12 hlo hS) (hF.keep (fun b b1 b2 => n12 b (by omega))) (fun q q1 q2 q3 => n12 q q2) (Nat.mod_lt _ (by decide)) hz
  exact e
theorem q_remember (hlo : hb + 2 ≤ lo) (hr : r + 20 ≤ lo) (hrd : r + 20 ≤ hb ∨ hb + 2 ≤ r) (hc : cnt < 14) (hH : HistAt M hb old cnt fm) (hfm : ∀ s, s < 14 → fm s = P s) (hS : Slots M lo z P rows) (hF : RugF M r f) (ho : old < 14) (hz : lo ≤ z) : Runs mX2_remember [.ref hb, .ref r] M z (RemQ M hb lo z old cnt P rows f) := by
  refine runs_of plX2 rfl (Nat.le_of_ble_eq_true rfl) ?_
  show WP mX2_remember 0 [some (.ref hb), some (.ref r), none] [] M z 0 0 _
  refine g_aload_0 dX2_remember_0 ?_
  refine g_get dX2_remember_1 (fX2_15 rfl) hH.1 rfl ?_
  refine g_bipush (v := nI 14) dX2_remember_4 rfl ?_
  refine g_icmp_ltN (tgt := 30) dX2_remember_6 (by decide) (by omega) (by omega) (fun _ => ?_) (fun h6 => absurd h6 (by omega))
  exact q_rem30 hlo hr hrd hc hH hfm hS hF (fun q _ _ _ => rfl) ho hz
theorem q_takeBack (hH : HistAt M hb old (cnt + 1) fm) (ho : old < 14) (hc : cnt < 14) (hx : fm ((old + cnt) % 14) = some x) (hxF : RugF M x g) (hF : RugF M r f) (hrx : r + 20 ≤ x ∨ x + 20 ≤ r) (hrd : r + 20 ≤ hb ∨ hb + 2 ≤ r) : Runs mX2_takeBack [.ref hb, .ref r] M z (fun res M' z' => res = .inl none ∧ z' = z ∧ HistAt M' hb old cnt fm ∧ RugF M' r g ∧ ∀ q, (q < r ∨ r + 20 ≤ q) → q ≠ hb → M' q = M q) := by
  have ht : (old + cnt) % 14 < 14 := Nat.mod_lt _ (by decide)
  obtain ⟨_, hro⟩ := hF.ao
  refine runs_of plX2 rfl (Nat.le_of_ble_eq_true rfl) ?_
  show WP mX2_takeBack 0 [some (.ref hb), some (.ref r), none] [] M z 0 0 _
  refine g_aload_0 dX2_takeBack_0 ?_
  refine g_get dX2_takeBack_1 (fX2_19 rfl) hH.1 rfl ?_
  refine g_aload_0 dX2_takeBack_4 ?_
  refine g_get dX2_takeBack_5 (fX2_15 rfl) hH.1 rfl ?_
  refine g_iaddN dX2_takeBack_8 ?_
  refine g_iconst (v := nI 1) dX2_takeBack_9 rfl ?_
  refine g_isubN dX2_takeBack_10 (by omega) ?_
  refine g_bipush (v := nI 14) dX2_takeBack_11 rfl ?_
  refine g_s2_1 dX2_takeBack_13 (sX2_22 rfl) rfl (Nat.le_of_ble_eq_true rfl) ⟨rfl, rfl⟩ (Nat.le_of_ble_eq_true rfl) (Nat.le_of_ble_eq_true rfl) (c_floorMod (by omega) (by decide) (by decide)) ?_
  rw [show old + (cnt + 1) - 1 = old + cnt by omega]
  refine g_istore_2 rfl dX2_takeBack_16 ?_
  refine g_aload_0 dX2_takeBack_17 ?_
  refine g_get dX2_takeBack_18 (fX2_15 rfl) hH.1 rfl ?_
  refine g_if_le (tgt := 53) dX2_takeBack_21 (by decide)  (fun h21 => absurd h21 (nI_nle (by omega) (by omega))) (fun _ => ?_)
  refine g_aload_0 dX2_takeBack_24 ?_
  refine g_get dX2_takeBack_25 (fX2_11 rfl) hH.1 rfl ?_
  refine g_iload_2 dX2_takeBack_28 ?_
  refine g_aaldRN dX2_takeBack_29 hH.2 ht (by decide) (by rw [hx]) ?_
  refine g_ifnull dX2_takeBack_30 ?_
  refine g_aload_1 dX2_takeBack_33 ?_
  refine g_aload_0 dX2_takeBack_34 ?_
  refine g_get dX2_takeBack_35 (fX2_11 rfl) hH.1 rfl ?_
  refine g_iload_2 dX2_takeBack_38 ?_
  refine g_aaldRN dX2_takeBack_39 hH.2 ht (by decide) (by rw [hx]) ?_
  refine g_v1 dX2_takeBack_40 (vX2_29 rfl) rfl hro (Nat.le_of_ble_eq_true rfl) (Nat.le_of_ble_eq_true rfl) (Nat.le_of_ble_eq_true rfl) (q_copyFrom hF hxF (by omega)) (fun r M2 z2 hq => ?_) (fun E M2 z2 hq => by obtain ⟨hq, -⟩ := hq; cases hq)
  obtain ⟨hr9, hG, hO, rfl⟩ := hq
  cases hr9
  have h0 := (hO _ (by omega)).trans hH.1
  have h1 := (hO _ (by omega)).trans hH.2
  refine g_aload_0 dX2_takeBack_43 ?_
  refine g_dup dX2_takeBack_44 rfl ?_
  refine g_get dX2_takeBack_45 (fX2_15 rfl) h0 rfl ?_
  refine g_iconst (v := nI 1) dX2_takeBack_48 rfl ?_
  refine g_isubN dX2_takeBack_49 (by omega) ?_
  refine g_putQ dX2_takeBack_50 (fX2_15 rfl) h0 rfl rfl (Nat.le_of_ble_eq_true rfl) (fun M3 h0 n3 => ?_)
  exact g_return rfl dX2_takeBack_53 (Nat.le_of_ble_eq_true rfl) (Nat.le_of_ble_eq_true rfl) ⟨rfl, rfl, ⟨h0, (n3 _ (by omega)).trans h1⟩, hG.keep (fun b b1 b2 => n3 b (by omega)), fun q q1 q2 => (n3 q q2).trans (hO q q1)⟩
end P29
