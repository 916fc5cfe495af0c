section P65
variable {M M' M0 M1 : Hp} {z z' a b o lo n n' len len' x y old c2 i j k s p m : Nat} {f f' t t' r : Row} {h h' h2 : Nat → Row} {sv sv' : Nat → Option Row} {g g' : Nat → Nat} {I I' : Row} {A A' : Nat → Row} {v w : Int32} {P : Nat → Option Nat} {rows : Nat → Row} {fm fs : Nat → Option Nat}
/-! the class's object: its cells lie in [a, a + 55); remembered and saved Rugs lie from lo on -/
def cL (a : Nat) : List Value := [.ref (a + 1), .ref (a + 21), .ref (a + 41), .ref (a + 42), .ref (a + 44), .ref (a + 46), .ref (a + 51)]
def HInv (M : Hp) (a lo z n : Nat) (h : Nat → Row) (sv : Nat → Option Row) : Prop := ∃ (old : Nat) (P : Nat → Option Nat) (rows : Nat → Row) (fm fs : Nat → Option Nat), (HistAt M (a + 42) old n fm ∧ M (a + 41) = some (aR 2 fs)) ∧ Slots M lo z P rows ∧ old < 14 ∧ n ≤ 14 ∧ (∀ s, s < 14 → fm s = P s) ∧ (∀ k, k < n → rows ((old + k) % 14) = h k ∧ ∃ x, P ((old + k) % 14) = some x) ∧ (∀ s, s < 2 → fs s = P (14 + s)) ∧ (∀ s, s < 2 → (sv s = none → P (14 + s) = none) ∧ ∀ r, sv s = some r → rows (14 + s) = r ∧ ∃ x, P (14 + s) = some x)
theorem HInv.keep (hH : HInv M a lo z n h sv) (hz : z ≤ z') (q1 : ∀ q, a + 41 ≤ q → q < a + 44 → M' q = M q) (q2 : ∀ q, lo ≤ q → q < z → M' q = M q) : HInv M' a lo z' n h sv := by
  obtain ⟨old, P, rows, fm, fs, ⟨⟨h1, h2⟩, h3⟩, hS, hr⟩ := hH
  exact ⟨old, P, rows, fm, fs, ⟨⟨(q1 _ (by omega) (by omega)).trans h1, (q1 _ (by omega) (by omega)).trans h2⟩, (q1 _ (by omega) (by omega)).trans h3⟩, hS.keep hz q2, hr⟩
def CInv (M : Hp) (a lo z : Nat) (f : Row) (n : Nat) (h : Nat → Row) (sv : Nat → Option Row) (len : Nat) (g : Nat → Nat) : Prop :=
  M a = some (.inr (7, cL a)) ∧ RugF M (a + 1) f ∧ (∃ ft, RugF M (a + 21) ft) ∧ HInv M a lo z n h sv ∧ ScriptAt M (a + 44) len g ∧ (∃ sc pl gr ti lv od bk, PlAt M (a + 46) sc pl gr ti lv od bk) ∧ (∃ O R rc C, ArAt M (a + 51) O R rc C) ∧ a + 55 ≤ lo ∧ lo ≤ z
def CFr (M M' : Hp) (a lo z z' : Nat) : Prop := z ≤ z' ∧ ∀ q, q < lo → (q < a ∨ a + 55 ≤ q) → M' q = M q
def CQ (v : Option Value) (M : Hp) (a lo : Nat) (f : Row) (n : Nat) (h : Nat → Row) (sv : Nat → Option Row) (len : Nat) (g : Nat → Nat) (z : Nat) : GR → Hp → Nat → Prop := fun r M' z' => r = .inl v ∧ CInv M' a lo z' f n h sv len g ∧ CFr M M' a lo z z'
theorem CFr.rf : CFr M M a lo z z := ⟨Nat.le_refl _, fun _ _ _ => rfl⟩
theorem CFr.tr {z2 : Nat} {M2 : Hp} (h1 : CFr M M1 a lo z z') (h2 : CFr M1 M2 a lo z' z2) : CFr M M2 a lo z z2 := ⟨Nat.le_trans h1.1 h2.1, fun q q1 q2 => (h2.2 q q1 q2).trans (h1.2 q q1 q2)⟩
theorem CFr.of (hO : Out M M' p m) (h1 : a ≤ p) (h2 : p + m ≤ a + 55) : CFr M M' a lo z z := ⟨Nat.le_refl _, fun q _ q2 => hO q (by omega)⟩
theorem PlAt.ex {pb : Nat} (h : ∃ sc pl gr ti lv od bk, PlAt M pb sc pl gr ti lv od bk) (hq : ∀ q, pb ≤ q → q < pb + 5 → M' q = M q) : ∃ sc pl gr ti lv od bk, PlAt M' pb sc pl gr ti lv od bk := by
  obtain ⟨sc, pl, gr, ti, lv, od, bk, hP⟩ := h
  exact ⟨sc, pl, gr, ti, lv, od, bk, hP.keep hq⟩
theorem ArAt.ex {ab : Nat} (h : ∃ O R rc C, ArAt M ab O R rc C) (hq : ∀ q, ab ≤ q → q < ab + 4 → M' q = M q) : ∃ O R rc C, ArAt M' ab O R rc C := by
  obtain ⟨O, R, rc, C, hA⟩ := h
  exact ⟨O, R, rc, C, hA.keep hq⟩
theorem RugF.ex (h : ∃ ft, RugF M a ft) (hq : ∀ q, a ≤ q → q < a + 20 → M' q = M q) : ∃ ft, RugF M' a ft := by
  obtain ⟨ft, hF⟩ := h
  exact ⟨ft, hF.keep hq⟩
theorem CInv.keep (hC : CInv M a lo z f n h sv len g) (hz : z ≤ z') (hq : ∀ q, ((a ≤ q ∧ q < a + 55) ∨ (lo ≤ q ∧ q < z)) → M' q = M q) : CInv M' a lo z' f n h sv len g := by
  obtain ⟨ho, hF, hT, hH, hS, hP, hA, l1, l2⟩ := hC
  exact ⟨(hq _ (by omega)).trans ho, hF.keep (fun q _ _ => hq q (by omega)), RugF.ex hT (fun q _ _ => hq q (by omega)), hH.keep hz (fun q _ _ => hq q (by omega)) (fun q _ _ => hq q (by omega)), hS.keep (fun q _ _ => hq q (by omega)), PlAt.ex hP (fun q _ _ => hq q (by omega)), ArAt.ex hA (fun q _ _ => hq q (by omega)), l1, by omega⟩
theorem CInv.rug (hC : CInv M a lo z f n h sv len g) (hO : Out M M' (a + 1) 20) (hF' : RugF M' (a + 1) f') : CInv M' a lo z f' n h sv len g := by
  obtain ⟨ho, hF, hT, hH, hS, hP, hA, l1, l2⟩ := hC
  exact ⟨(hO _ (by omega)).trans ho, hF', RugF.ex hT (fun q _ _ => hO q (by omega)), hH.keep (Nat.le_refl _) (fun q _ _ => hO q (by omega)) (fun q _ _ => hO q (by omega)), hS.keep (fun q _ _ => hO q (by omega)), PlAt.ex hP (fun q _ _ => hO q (by omega)), ArAt.ex hA (fun q _ _ => hO q (by omega)), l1, l2⟩
theorem CInv.trial (hC : CInv M a lo z f n h sv len g) (hO : Out M M' (a + 21) 20) (hF' : RugF M' (a + 21) f') : CInv M' a lo z f n h sv len g := by
  obtain ⟨ho, hF, hT, hH, hS, hP, hA, l1, l2⟩ := hC
  exact ⟨(hO _ (by omega)).trans ho, hF.keep (fun q _ _ => hO q (by omega)), ⟨f', hF'⟩, hH.keep (Nat.le_refl _) (fun q _ _ => hO q (by omega)) (fun q _ _ => hO q (by omega)), hS.keep (fun q _ _ => hO q (by omega)), PlAt.ex hP (fun q _ _ => hO q (by omega)), ArAt.ex hA (fun q _ _ => hO q (by omega)), l1, l2⟩
theorem CInv.txt (hC : CInv M a lo z f n h sv len g) (hO : Out M M' (a + 44) 2) (hS' : ScriptAt M' (a + 44) len' g') : CInv M' a lo z f n h sv len' g' := by
  obtain ⟨ho, hF, hT, hH, hS, hP, hA, l1, l2⟩ := hC
  exact ⟨(hO _ (by omega)).trans ho, hF.keep (fun q _ _ => hO q (by omega)), RugF.ex hT (fun q _ _ => hO q (by omega)), hH.keep (Nat.le_refl _) (fun q _ _ => hO q (by omega)) (fun q _ _ => hO q (by omega)), hS', PlAt.ex hP (fun q _ _ => hO q (by omega)), ArAt.ex hA (fun q _ _ => hO q (by omega)), l1, l2⟩
theorem CInv.ars (hC : CInv M a lo z f n h sv len g) (hO : Out M M' (a + 51) 4) (hA' : ∃ O R rc C, ArAt M' (a + 51) O R rc C) : CInv M' a lo z f n h sv len g := by
  obtain ⟨ho, hF, hT, hH, hS, hP, hA, l1, l2⟩ := hC
  exact ⟨(hO _ (by omega)).trans ho, hF.keep (fun q _ _ => hO q (by omega)), RugF.ex hT (fun q _ _ => hO q (by omega)), hH.keep (Nat.le_refl _) (fun q _ _ => hO q (by omega)) (fun q _ _ => hO q (by omega)), hS.keep (fun q _ _ => hO q (by omega)), PlAt.ex hP (fun q _ _ => hO q (by omega)), hA', l1, l2⟩
theorem CInv.playR (hC : CInv M a lo z f n h sv len g) (hO : ∀ q, (q < a + 46 ∨ a + 46 + 5 ≤ q) → (q < a + 1 ∨ a + 1 + 20 ≤ q) → M' q = M q) (hF' : RugF M' (a + 1) f') (hP' : ∃ sc pl gr ti lv od bk, PlAt M' (a + 46) sc pl gr ti lv od bk) : CInv M' a lo z f' n h sv len g := by
  obtain ⟨ho, hF, hT, hH, hS, hP, hA, l1, l2⟩ := hC
  exact ⟨(hO _ (by omega) (by omega)).trans ho, hF', RugF.ex hT (fun q _ _ => hO q (by omega) (by omega)), hH.keep (Nat.le_refl _) (fun q _ _ => hO q (by omega) (by omega)) (fun q _ _ => hO q (by omega) (by omega)), hS.keep (fun q _ _ => hO q (by omega) (by omega)), hP', ArAt.ex hA (fun q _ _ => hO q (by omega) (by omega)), l1, l2⟩
theorem CInv.playT (hC : CInv M a lo z f n h sv len g) (hO : ∀ q, (q < a + 46 ∨ a + 46 + 5 ≤ q) → (q < a + 21 ∨ a + 21 + 20 ≤ q) → M' q = M q) (hF' : RugF M' (a + 21) f') (hP' : ∃ sc pl gr ti lv od bk, PlAt M' (a + 46) sc pl gr ti lv od bk) : CInv M' a lo z f n h sv len g := by
  obtain ⟨ho, hF, hT, hH, hS, hP, hA, l1, l2⟩ := hC
  exact ⟨(hO _ (by omega) (by omega)).trans ho, hF.keep (fun q _ _ => hO q (by omega) (by omega)), ⟨f', hF'⟩, hH.keep (Nat.le_refl _) (fun q _ _ => hO q (by omega) (by omega)) (fun q _ _ => hO q (by omega) (by omega)), hS.keep (fun q _ _ => hO q (by omega) (by omega)), hP', ArAt.ex hA (fun q _ _ => hO q (by omega) (by omega)), l1, l2⟩
theorem CFr.pl (hO : ∀ q, (q < a + 46 ∨ a + 46 + 5 ≤ q) → (q < p ∨ p + 20 ≤ q) → M' q = M q) (h1 : a ≤ p) (h2 : p + 20 ≤ a + 55) : CFr M M' a lo z z := ⟨Nat.le_refl _, fun q _ q2 => hO q (by omega) (by omega)⟩
theorem CInv.hist (hC : CInv M a lo z f n h sv len g) (hz : z ≤ z') (hO : ∀ q, q < lo → (q < a + 41 ∨ a + 44 ≤ q) → M' q = M q) (hH' : HInv M' a lo z' n' h' sv') : CInv M' a lo z' f n' h' sv' len g := by
  obtain ⟨ho, hF, hT, hH, hS, hP, hA, l1, l2⟩ := hC
  exact ⟨(hO _ (by omega) (by omega)).trans ho, hF.keep (fun q _ _ => hO q (by omega) (by omega)), RugF.ex hT (fun q _ _ => hO q (by omega) (by omega)), hH', hS.keep (fun q _ _ => hO q (by omega) (by omega)), PlAt.ex hP (fun q _ _ => hO q (by omega) (by omega)), ArAt.ex hA (fun q _ _ => hO q (by omega) (by omega)), l1, by omega⟩
theorem CInv.cong (hC : CInv M a lo z f n h sv len g) (he : Eq9 f f') : CInv M a lo z f' n h sv len g := by
  obtain ⟨ho, hF, hr⟩ := hC
  exact ⟨ho, hF.cong he, hr⟩
/-- the states when one more is remembered -/
def remH (n : Nat) (h : Nat → Row) (f : Row) : Nat → Row := if n = 14 then (fun k => if k = 13 then f else h (k + 1)) else (fun k => if k = n then f else h k)
theorem rem_fin {res : GR} (hC : CInv M a lo z f n h sv len g) (hHi : HistAt M (a + 42) x n fm) (hsl : M (a + 41) = some (aR 2 fs)) (hold : old < 14) (hc2 : c2 < 14) (hfm : ∀ s, s < 14 → fm s = P s) (hrow : ∀ k, k < c2 → rows ((old + k) % 14) = h2 k ∧ ∃ x, P ((old + k) % 14) = some x) (hfs : ∀ s, s < 2 → fs s = P (14 + s)) (hsv : ∀ s, s < 2 → (sv s = none → P (14 + s) = none) ∧ ∀ r, sv s = some r → rows (14 + s) = r ∧ ∃ x, P (14 + s) = some x) (hq : RemQ M (a + 42) lo z old c2 P rows f res M' z') : CQ none M a lo f (c2 + 1) (fun k => if k = c2 then f else h2 k) sv len g z res M' z' := by
  obtain ⟨hr, hz, ⟨fm', P', y, hH', hfm', hS', hy, hP'⟩, hO⟩ := hq
  have l1 := hC.2.2.2.2.2.2.2.1
  refine ⟨hr, hC.hist hz (fun q q1 q2 => hO q q1 (by omega) (by omega)) ⟨old, P', updR rows ((old + c2) % 14) f, fm', fs, ⟨hH', (hO _ (by omega) (by omega) (by omega)).trans hsl⟩, hS', hold, by omega, hfm', fun k hk => ?_, fun s hs => ?_, fun s hs => ⟨fun e => ?_, fun r e => ?_⟩⟩, hz, fun q q1 q2 => hO q q1 (by omega) (by omega)⟩
  · by_cases e : k = c2
    · subst e
      refine ⟨?_, y, hy⟩
      rw [updR_eq]
      exact (if_pos rfl).symm
    · have hne : (old + k) % 14 ≠ (old + c2) % 14 := by omega
      rw [updR_ne hne, hP' _ hne]
      have h7 := hrow k (by omega)
      exact ⟨h7.1.trans (if_neg e).symm, h7.2⟩
  · rw [hP' _ (by omega)]
    exact hfs s hs
  · rw [hP' _ (by omega)]
    exact (hsv s hs).1 e
  · rw [hP' _ (by omega), updR_ne (by omega)]
    exact (hsv s hs).2 r e
theorem q_remC (hC : CInv M a lo z f n h sv len g) : Runs mX2_remember [.ref (a + 42), .ref (a + 1)] M z (CQ none M a lo f (remN n) (remH n h f) sv len g z) := by
  have hC' := hC
  obtain ⟨ho, hF, hT, ⟨old, P, rows, fm, fs, ⟨hHi, hsl⟩, hSl, hold, hn, hfm, hrow, hfs, hsv⟩, hS, hP, hA, l1, l2⟩ := hC'
  unfold remN remH
  by_cases h14 : n = 14
  · rw [if_pos h14, if_pos h14]
    refine c_mono (q_remember14 (by omega) (by omega) (Or.inl (by omega)) h14 hHi hfm hSl hF hold l2) (fun r M' z' hq => ?_)
    exact rem_fin (h2 := fun k => h (k + 1)) hC hHi hsl (Nat.mod_lt _ (by decide)) (by decide) hfm (fun k hk => by rw [show ((old + 1) % 14 + k) % 14 = (old + (k + 1)) % 14 from by omega]; exact hrow (k + 1) (by omega)) hfs hsv hq
  · rw [if_neg h14, if_neg h14]
    refine c_mono (q_remember (by omega) (by omega) (Or.inl (by omega)) (by omega) hHi hfm hSl hF hold l2) (fun r M' z' hq => ?_)
    exact rem_fin hC hHi hsl hold (by omega) hfm hrow hfs hsv hq
theorem q_backC (hC : CInv M a lo z f (n + 1) h sv len g) : Runs mX2_takeBack [.ref (a + 42), .ref (a + 1)] M z (CQ none M a lo (h n) n h sv len g z) := by
  have hC' := hC
  obtain ⟨ho, hF, hT, ⟨old, P, rows, fm, fs, ⟨hHi, hsl⟩, hSl, hold, hn, hfm, hrow, hfs, hsv⟩, hS, hP, hA, l1, l2⟩ := hC'
  have ht : (old + n) % 14 < 14 := Nat.mod_lt _ (by decide)
  obtain ⟨e1, x, hx⟩ := hrow n (by omega)
  obtain ⟨x1, x2, hxF, -⟩ := hSl _ x (by omega) hx
  rw [e1] at hxF
  refine c_mono (q_takeBack hHi hold (by omega) (by rw [hfm _ ht]; exact hx) hxF hF (by omega) (Or.inl (by omega))) (fun res M' z' hq => ?_)
  obtain ⟨hr, rfl, hH', hF', hO⟩ := hq
  refine ⟨hr, ?_, Nat.le_refl _, fun q q1 q2 => hO q (by omega) (by omega)⟩
  have hk : ∀ q, (q < a + 1 ∨ a + 21 ≤ q) → q ≠ a + 42 → M' q = M q := fun q q1 q2 => hO q (by omega) q2
  exact ⟨(hk _ (by omega) (by omega)).trans ho, hF', RugF.ex hT (fun q _ _ => hk q (by omega) (by omega)), ⟨old, P, rows, fm, fs, ⟨hH', (hk _ (by omega) (by omega)).trans hsl⟩, hSl.keep (Nat.le_refl _) (fun q _ _ => hk q (by omega) (by omega)), hold, by omega, hfm, fun k hk => hrow k (by omega), hfs, hsv⟩, hS.keep (fun q _ _ => hk q (by omega) (by omega)), PlAt.ex hP (fun q _ _ => hk q (by omega) (by omega)), ArAt.ex hA (fun q _ _ => hk q (by omega) (by omega)), l1, l2⟩
/-! the model's object -/
def MRel (I : Row) (A : Nat → Row) (f t : Row) (n : Nat) (h : Nat → Row) (sv : Nat → Option Row) (len : Nat) (g : Nat → Nat) : Prop :=
  A 1 = f ∧ A 2 = t ∧ I 12 = nI n ∧ n ≤ 14 ∧ (∀ k, k < n → ∀ i, i < 947 → A 9 (947 * k + i) = h k i) ∧ ((∀ s, s < 2 → A 11 s = bI (sv s).isSome) ∧ ∀ s r, s < 2 → sv s = some r → ∀ i, i < 947 → A 10 (947 * s + i) = r i) ∧ I 16 = nI len ∧ len ≤ 120 ∧ TxtR A g len
theorem MRel.of (hr : MRel I A f t n h sv len g) (e12 : I' 12 = I 12) (e16 : I' 16 = I 16) (e1 : A' 1 = f') (e2 : A' 2 = t') (e9 : A' 9 = A 9) (e10 : A' 10 = A 10) (e11 : A' 11 = A 11) (eT : A' 12 = A 12) : MRel I' A' f' t' n h sv len g := by
  obtain ⟨h1, h2, h3, h4, h5, ⟨h6, h7⟩, h8, h9, h10, h11⟩ := hr
  exact ⟨e1, e2, e12.trans h3, h4, by rw [e9]; exact h5, ⟨by rw [e11]; exact h6, by rw [e10]; exact h7⟩, e16.trans h8, h9, by rw [eT]; exact h10, h11⟩
theorem MRel.i0 (hr : MRel I A f t n h sv len g) : MRel (upd I 0 v) A f t n h sv len g := hr.of (upd_ne (by decide)) (upd_ne (by decide)) hr.1 hr.2.1 rfl rfl rfl rfl
theorem MRel.r1 (hr : MRel I A f t n h sv len g) : MRel I (stg A 1 f') f' t n h sv len g := hr.of rfl rfl stg_eq ((stg_ne (by decide)).trans hr.2.1) (stg_ne (by decide)) (stg_ne (by decide)) (stg_ne (by decide)) (stg_ne (by decide))
theorem MRel.r2 (hr : MRel I A f t n h sv len g) : MRel I (stg A 2 t') f t' n h sv len g := hr.of rfl rfl ((stg_ne (by decide)).trans hr.1) stg_eq (stg_ne (by decide)) (stg_ne (by decide)) (stg_ne (by decide)) (stg_ne (by decide))
theorem MRel.rem (hr : MRel I A f t n h sv len g) : MRel (upd I 12 (nI (remN n))) (stg A 9 (remB (A 9) (A 1) n)) f t (remN n) (remH n h f) sv len g := by
  obtain ⟨h1, h2, h3, h4, h5, ⟨h6, h7⟩, h8, h9, h10, h11⟩ := hr
  have e : ∀ j, j ≠ 9 → stg A 9 (remB (A 9) (A 1) n) j = A j := fun j hj => stg_ne hj
  refine ⟨(e 1 (by decide)).trans h1, (e 2 (by decide)).trans h2, upd_eq, ?_, fun k hk i hi => ?_, ⟨by rw [e 11 (by decide)]; exact h6, by rw [e 10 (by decide)]; exact h7⟩, (upd_ne (by decide)).trans h8, h9, by rw [e 12 (by decide)]; exact h10, h11⟩
  · unfold remN
    split <;> omega
  · rw [stg_eq, h1]
    unfold remN at hk
    unfold remB remH
    by_cases h14 : n = 14
    · rw [if_pos h14] at hk
      rw [if_pos h14, if_pos h14]
      unfold cpB
      by_cases e13 : k = 13
      · subst e13
        rw [if_pos (by omega), if_pos rfl]
        exact congrArg f (by omega)
      · rw [if_neg (by omega), if_neg e13]
        unfold shB
        rw [if_pos (by omega), show 947 + (947 * k + i) = 947 * (k + 1) + i from by omega]
        exact h5 (k + 1) (by omega) i hi
    · rw [if_neg h14] at hk
      rw [if_neg h14, if_neg h14]
      unfold cpB
      by_cases en : k = n
      · subst en
        rw [if_pos (by omega), if_pos rfl]
        exact congrArg f (by omega)
      · rw [if_neg (by omega), if_neg en]
        exact h5 k (by omega) i hi
def MoQ (v : Option Value) (k : Nat) (M : Hp) (b : Nat) (f t : Row) (n : Nat) (h : Nat → Row) (sv : Nat → Option Row) (len : Nat) (g : Nat → Nat) (z : Nat) : GR → Hp → Nat → Prop := fun r M' z' => r = .inl v ∧ (∃ I A, MAt M' b I A ∧ I 0 = nI k ∧ MRel I A f t n h sv len g) ∧ Out M M' b 13 ∧ z' = z
theorem MAt.keep (hA : MAt M b I A) (hq : ∀ q, b ≤ q → q < b + 13 → M' q = M q) : MAt M' b I A := by
  obtain ⟨h0, h1, h2, h3, h4, h5, h6, h7, h8, h9, h10, h11, h12⟩ := hA
  exact ⟨(hq _ (by omega) (by omega)).trans h0, (hq _ (by omega) (by omega)).trans h1, (hq _ (by omega) (by omega)).trans h2, (hq _ (by omega) (by omega)).trans h3, (hq _ (by omega) (by omega)).trans h4, (hq _ (by omega) (by omega)).trans h5, (hq _ (by omega) (by omega)).trans h6, (hq _ (by omega) (by omega)).trans h7, (hq _ (by omega) (by omega)).trans h8, (hq _ (by omega) (by omega)).trans h9, (hq _ (by omega) (by omega)).trans h10, (hq _ (by omega) (by omega)).trans h11, (hq _ (by omega) (by omega)).trans h12⟩
/-! both -/
def Good (f : Row) : Prop := Rng f ∧ MotOK f ∧ Cons f
def GoodS (f : Row) (n : Nat) (h : Nat → Row) (sv : Nat → Option Row) (len : Nat) (g : Nat → Nat) : Prop := Good f ∧ (∀ k, k < n → Good (h k)) ∧ (∀ s r, s < 2 → sv s = some r → Good r) ∧ len ≤ 120 ∧ CharsOK g
theorem Good.cong (hG : Good f) (he : Eq9 f f') : Good f' := ⟨he.rng hG.1, mot_cong (fun k _ k2 => he k k2) hG.2.1, hG.2.2.cong he⟩
theorem GoodS.rem (hG : GoodS f n h sv len g) (hn : n ≤ 14) (hf : Good f') : GoodS f' (remN n) (remH n h f) sv len g := by
  refine ⟨hf, fun k hk => ?_, hG.2.2⟩
  unfold remN at hk
  unfold remH
  by_cases h14 : n = 14
  · rw [if_pos h14] at hk
    rw [if_pos h14]
    show Good (if k = 13 then f else h (k + 1))
    split
    · exact hG.1
    · exact hG.2.1 _ (by omega)
  · rw [if_neg h14] at hk
    rw [if_neg h14]
    show Good (if k = n then f else h k)
    split
    · exact hG.1
    · exact hG.2.1 _ (by omega)
theorem GoodS.row (hG : GoodS f n h sv len g) (hf : Good f') : GoodS f' n h sv len g := ⟨hf, hG.2⟩
def JInv (M : Hp) (a b o lo z : Nat) (f t : Row) (n : Nat) (h : Nat → Row) (sv : Nat → Option Row) (len : Nat) (g : Nat → Nat) : Prop := CInv M a lo z f n h sv len g ∧ (∃ I A, MAt M b I A ∧ MRel I A f t n h sv len g) ∧ (∃ fo, M o = some (aJ 1 fo)) ∧ GoodS f n h sv len g ∧ a + 55 ≤ b ∧ b + 13 ≤ o ∧ o + 1 ≤ lo
def JS (M : Hp) (a b o lo z : Nat) : Prop := ∃ f t n h sv len g, JInv M a b o lo z f t n h sv len g
theorem JInv.n14 (hJ : JInv M a b o lo z f t n h sv len g) : n ≤ 14 := by
  obtain ⟨-, ⟨I, A, -, hr⟩, -⟩ := hJ
  exact hr.2.2.2.1
def SEnd (M : Hp) (a b o lo z k : Nat) (v : Int32) : Prop := (∃ I A, MAt M b I A ∧ I 0 = nI k) ∧ (∃ fo, M o = some (aJ 1 fo) ∧ (k = 0 → fo 0 = v.toInt64)) ∧ JS M a b o lo z
/-- a call of the law's wrapper and of the model's method -/
def SOp (Pv : Int32 → Prop) (mw mm : GM) (as : List Value) (M : Hp) (a b o lo z : Nat) : Prop := ∃ (k : Nat) (v : Int32) (Ψ : Hp → Nat → Prop), k < 4 ∧ (k = 0 → Pv v) ∧ Runs mw (.ref a :: (as ++ [.ref o])) M z (fun r M' z' => r = .inl (some (.int (nI k))) ∧ Ψ M' z') ∧ ∀ M' z', Ψ M' z' → ((∃ I A, MAt M' b I A) ∧ ∀ q, q < a → M' q = M q) ∧ Runs mm (.ref b :: as) M' z' (fun r M'' z'' => r = .inl (some (.int v)) ∧ SEnd M'' a b o lo z'' k v ∧ ∀ q, q < a → M'' q = M' q)
def Wok (mw mc : GM) (as : List Value) : Prop := ∀ (M : Hp) (z a o : Nat) (v : Int32) (Q : Hp → Nat → Prop), (∃ fs, M a = some (.inr (7, fs))) → Runs mc (.ref a :: as) M z (fun r M' z' => r = .inl (some (.int v)) ∧ Q M' z') → (∀ M' z', Q M' z' → ∃ fo, M' o = some (aJ 1 fo)) → Runs mw (.ref a :: (as ++ [.ref o])) M z (fun r M2 z2 => r = .inl (some (.int (nI 0))) ∧ ∃ M1 fo, Q M1 z2 ∧ M1 o = some (aJ 1 fo) ∧ M2 = hpu M1 o (aJ 1 (vp_updL fo 0 v.toInt64)))
def Wno (mw mc : GM) (as : List Value) (E : String) (k : Nat) : Prop := ∀ (M : Hp) (z a o : Nat), (∃ fs, M a = some (.inr (7, fs))) → (∃ fo, M o = some (aJ 1 fo)) → Runs mc (.ref a :: as) M z (gE E M z) → Runs mw (.ref a :: (as ++ [.ref o])) M z (fun r M' z' => r = .inl (some (.int (nI k))) ∧ M' = M ∧ z ≤ z')
theorem SOp.ok {Pv : Int32 → Prop} {mw mc mm : GM} {as : List Value} (hw : Wok mw mc as) (hJ : JInv M a b o lo z f t n h sv len g) (hG : GoodS f' n' h' sv' len' g') (hP : Pv v) (hc : Runs mc (.ref a :: as) M z (CQ (some (.int v)) M a lo f' n' h' sv' len' g' z)) (hm : ∀ M' z' I A, MAt M' b I A → MRel I A f t n h sv len g → Runs mm (.ref b :: as) M' z' (MoQ (some (.int v)) 0 M' b f' t' n' h' sv' len' g' z')) : SOp Pv mw mm as M a b o lo z := by
  obtain ⟨hC, ⟨I, A, hA, hr⟩, ⟨fo, hfo⟩, hG0, l1, l2, l3⟩ := hJ
  refine ⟨0, v, fun M2 z2 => ∃ M1 fo, (CInv M1 a lo z2 f' n' h' sv' len' g' ∧ CFr M M1 a lo z z2) ∧ M1 o = some (aJ 1 fo) ∧ M2 = hpu M1 o (aJ 1 (vp_updL fo 0 v.toInt64)), by decide, fun _ => hP, hw M z a o v (fun M' z' => CInv M' a lo z' f' n' h' sv' len' g' ∧ CFr M M' a lo z z') ⟨_, hC.1⟩ (c_mono hc (fun r M' z' hq => ⟨hq.1, hq.2⟩)) (fun M' z' hq => ⟨fo, (hq.2.2 o (by omega) (by omega)).trans hfo⟩), ?_⟩
  rintro M2 z2 ⟨M1, fo1, ⟨hC1, hF1⟩, ho1, rfl⟩
  have hA2 : MAt (hpu M1 o (aJ 1 (vp_updL fo1 0 v.toInt64))) b I A := hA.keep (fun q q1 q2 => (hpu_ne _ _ (by omega)).trans (hF1.2 q (by omega) (by omega)))
  have l4 := hC.2.2.2.2.2.2.2.1
  refine ⟨⟨⟨I, A, hA2⟩, fun q h => (hpu_ne _ _ (by omega)).trans (hF1.2 q (by omega) (by omega))⟩, c_mono (hm _ z2 I A hA2 hr) (fun r M3 z3 hq => ?_)⟩
  obtain ⟨h1, ⟨I3, A3, hA3, hk3, hr3⟩, hO3, rfl⟩ := hq
  have hfo3 : M3 o = some (aJ 1 (vp_updL fo1 0 v.toInt64)) := (hO3 o (by omega)).trans (hpu_same _ _ _)
  refine ⟨h1, ⟨⟨I3, A3, hA3, hk3⟩, ⟨_, hfo3, fun _ => by simp [vp_updL]⟩, f', t', n', h', sv', len', g', hC1.keep (Nat.le_refl _) (fun q q1 => (hO3 q (by omega)).trans (hpu_ne _ _ (by omega))), ⟨I3, A3, hA3, hr3⟩, ⟨_, hfo3⟩, hG, l1, l2, l3⟩, fun q h => hO3 q (by omega)⟩
theorem SOp.no {Pv : Int32 → Prop} {mw mc mm : GM} {as : List Value} {E : String} (hw : Wno mw mc as E k) (hk : k < 4) (hk0 : k ≠ 0) (hJ : JInv M a b o lo z f t n h sv len g) (hc : Runs mc (.ref a :: as) M z (gE E M z)) (hm : ∀ M' z' I A, MAt M' b I A → MRel I A f t n h sv len g → Runs mm (.ref b :: as) M' z' (MoQ (some (.int v)) k M' b f t n h sv len g z')) : SOp Pv mw mm as M a b o lo z := by
  obtain ⟨hC, ⟨I, A, hA, hr⟩, ⟨fo, hfo⟩, hG0, l1, l2, l3⟩ := hJ
  refine ⟨k, v, fun M2 z2 => M2 = M ∧ z ≤ z2, hk, fun e => absurd e hk0, hw M z a o ⟨_, hC.1⟩ ⟨fo, hfo⟩ hc, ?_⟩
  rintro M2 z2 ⟨rfl, hz⟩
  refine ⟨⟨⟨I, A, hA⟩, fun _ _ => rfl⟩, c_mono (hm _ z2 I A hA hr) (fun r M3 z3 hq => ?_)⟩
  obtain ⟨h1, ⟨I3, A3, hA3, hk3, hr3⟩, hO3, rfl⟩ := hq
  have hfo3 : M3 o = some (aJ 1 fo) := (hO3 o (by omega)).trans hfo
  exact ⟨h1, ⟨⟨I3, A3, hA3, hk3⟩, ⟨_, hfo3, fun e => absurd e hk0⟩, f, t, n, h, sv, len, g, hC.keep hz (fun q q1 => hO3 q (by omega)), ⟨I3, A3, hA3, hr3⟩, ⟨_, hfo3⟩, hG0, l1, l2, l3⟩, fun q h => hO3 q (by omega)⟩
/-- a call of a method that throws nothing, and of the model's -/
def SOp0 (mc mm : GM) (v : Value) (M : Hp) (a b o lo z : Nat) : Prop := ∃ (Ψ : Hp → Nat → Prop), Runs mc [.ref a] M z (fun r M' z' => r = .inl (some v) ∧ Ψ M' z') ∧ ∀ M' z', Ψ M' z' → ((∃ I A, MAt M' b I A) ∧ ∀ q, q < a → M' q = M q) ∧ Runs mm [.ref b] M' z' (fun r M'' z'' => r = .inl (some v) ∧ JS M'' a b o lo z'' ∧ ∀ q, q < a → M'' q = M' q)
theorem SOp0.ok {mc mm : GM} {v : Value} (hJ : JInv M a b o lo z f t n h sv len g) (hG : GoodS f' n' h' sv' len' g') (hc : Runs mc [.ref a] M z (CQ (some v) M a lo f' n' h' sv' len' g' z)) (hm : ∀ M' z' I A, MAt M' b I A → MRel I A f t n h sv len g → Runs mm [.ref b] M' z' (MoQ (some v) 0 M' b f' t' n' h' sv' len' g' z')) : SOp0 mc mm v M a b o lo z := by
  obtain ⟨hC, ⟨I, A, hA, hr⟩, ⟨fo, hfo⟩, hG0, l1, l2, l3⟩ := hJ
  refine ⟨fun M' z' => CInv M' a lo z' f' n' h' sv' len' g' ∧ CFr M M' a lo z z', c_mono hc (fun r M' z' hq => ⟨hq.1, hq.2⟩), ?_⟩
  rintro M1 z1 ⟨hC1, hF1⟩
  have hA2 : MAt M1 b I A := hA.keep (fun q q1 q2 => hF1.2 q (by omega) (by omega))
  have l4 := hC.2.2.2.2.2.2.2.1
  refine ⟨⟨⟨I, A, hA2⟩, fun q h => hF1.2 q (by omega) (by omega)⟩, c_mono (hm _ z1 I A hA2 hr) (fun r M3 z3 hq => ?_)⟩
  obtain ⟨h1, ⟨I3, A3, hA3, hk3, hr3⟩, hO3, rfl⟩ := hq
  exact ⟨h1, ⟨f', t', n', h', sv', len', g', hC1.keep (Nat.le_refl _) (fun q q1 => hO3 q (by omega)), ⟨I3, A3, hA3, hr3⟩, ⟨fo, (hO3 o (by omega)).trans ((hF1.2 o (by omega) (by omega)).trans hfo)⟩, hG, l1, l2, l3⟩, fun q h => hO3 q (by omega)⟩
/-- a method that only reads -/
theorem CInv.rd {v : Value} {mc : GM} {as : List Value} (hC : CInv M a lo z f n h sv len g) (hc : Runs mc as M z (gD (some v) M z)) : Runs mc as M z (CQ (some v) M a lo f n h sv len g z) := c_mono hc (fun r M' z' hq => by
  obtain ⟨h1, rfl, rfl⟩ := hq
  exact ⟨h1, hC, CFr.rf⟩)
end P65
