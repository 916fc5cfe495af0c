section P60
variable {M M0 : Hp} {z a ab cb b c d i n h k x y hh : Nat} {f g : Row} {v w rc : Int32} {S o0 o : Nat → Bool} {O R C p q ht : Row} {Φ : GR → Hp → Nat → Prop} {l2 l3 l4 : Option Value}
theorem cnt_rem {P : Nat → Bool} (hy : P y = true) : ∀ n, y < n → cnt (fun c => if c = y then false else P c) n + 1 = cnt P n
  | 0, h => absurd h (by omega)
  | n + 1, h => by
    by_cases e : n = y
    · subst e
      rw [cnt_t hy, cnt_f (P := fun c => if c = n then false else P c) (by simp)]
      rw [cnt_congr (P := fun c => if c = n then false else P c) (Q := P) (fun i hi => if_neg (by omega))]
    · have ih := cnt_rem hy n (by omega)
      cases hp : P n with
      | true =>
        rw [cnt_t hp, cnt_t (P := fun c => if c = y then false else P c) (by simp [e, hp])]
        omega
      | false =>
        rw [cnt_f hp, cnt_f (P := fun c => if c = y then false else P c) (by simp [e, hp])]
        omega
def BI (S : Nat → Bool) (o0 : Nat → Bool) (k : Nat) (o : Nat → Bool) (R : Row) (n d hh : Nat) : Prop :=
  (∀ c, c < 144 → (o c = true ↔ (o0 c = true ∧ ∀ i, i < n → R i ≠ nI c))) ∧
  (∀ i, i < n → ∃ x, x < 144 ∧ R i = nI x ∧ o0 x = true ∧ Conn S k x) ∧
  n + cnt o 144 ≤ 144 ∧
  (∀ i h x y, (i < d ∨ (i = d ∧ h < hh)) → i < n → h < 4 → R i = nI x → x < 144 → besd x h = some y → o y = false) ∧
  (∃ i, i < n ∧ R i = nI k)
theorem BI.start (hk : k < 144) (h0 : o0 k = true) : BI S o0 k (fun c => if c = k then false else o0 c) (upd R 0 (nI k)) 1 0 0 := by
  refine ⟨fun c hc => ?_, fun i hi => ?_, ?_, fun i h x y hi => by omega, ⟨0, by omega, upd_eq⟩⟩
  · by_cases e : c = k
    · subst e
      simp only [if_true]
      exact ⟨fun w => noFT w, fun w => absurd upd_eq (w.2 0 (by omega))⟩
    · simp only [e, if_false]
      refine ⟨fun w => ⟨w, fun i hi => ?_⟩, fun w => w.1⟩
      have : i = 0 := by omega
      subst this
      rw [upd_eq]
      exact fun q => e ((nI_eq (by omega) (by omega)).mp q).symm
  · have : i = 0 := by omega
    subst this
    exact ⟨k, hk, upd_eq, h0, Conn.rf⟩
  · have := cnt_rem h0 144 hk
    have := cnt_le o0 144
    omega
theorem BI.skip (hB : BI S o0 k o R n d hh) (hx : R d = nI x) (hx9 : x < 144) (hq : ∀ y, besd x hh = some y → o y = false) : BI S o0 k o R n d (hh + 1) := by
  refine ⟨hB.1, hB.2.1, hB.2.2.1, fun i h x' y hi hn h4 hr hx' hb => ?_, hB.2.2.2.2⟩
  by_cases w : i = d ∧ h = hh
  · obtain ⟨rfl, rfl⟩ := w
    have : x' = x := (nI_eq (by omega) (by omega)).mp (hr.symm.trans hx)
    subst this
    exact hq y hb
  · exact hB.2.2.2.1 i h x' y (by omega) hn h4 hr hx' hb
theorem BI.next (hB : BI S o0 k o R n d 4) : BI S o0 k o R n (d + 1) 0 :=
  ⟨hB.1, hB.2.1, hB.2.2.1, fun i h x' y hi hn h4 hr hx' hb => hB.2.2.2.1 i h x' y (by omega) hn h4 hr hx' hb, hB.2.2.2.2⟩
theorem BI.lt (hB : BI S o0 k o R n d hh) (hy9 : y < 144) (hy : o y = true) : n < 144 := by
  have := cnt_rem hy 144 hy9
  have := hB.2.2.1
  omega
theorem BI.take (hB : BI S o0 k o R n d hh) (hS : ∀ c, c < 144 → o0 c = true → S c = true) (hdn : d < n) (hx : R d = nI x) (hx9 : x < 144) (hh4 : hh < 4) (hb : besd x hh = some y) (hy : o y = true) : BI S o0 k (fun c => if c = y then false else o c) (upd R n (nI y)) (n + 1) d (hh + 1) := by
  have hy9 : y < 144 := besd_lt hx9 hb
  have hyo := (hB.1 y hy9).mp hy
  obtain ⟨x', x1, x2, x3, x4⟩ := hB.2.1 d hdn
  have ex : x' = x := (nI_eq (by omega) (by omega)).mp (x2.symm.trans hx)
  subst ex
  have mono : ∀ c, (fun c => if c = y then false else o c) c = true → o c = true := fun c w => by
    by_cases e : c = y
    · simp only [e, if_true] at w; exact noFT w
    · simp only [e, if_false] at w; exact w
  refine ⟨fun c hc => ?_, fun i hi => ?_, ?_, fun i h u2 v2 hi hn h4 hr hx2 hb2 => ?_, ?_⟩
  · by_cases e : c = y
    · subst e
      simp only [if_true]
      exact ⟨fun w => noFT w, fun w => absurd upd_eq (w.2 n (by omega))⟩
    · simp only [e, if_false]
      rw [hB.1 c hc]
      refine ⟨fun w => ⟨w.1, fun i hi => ?_⟩, fun w => ⟨w.1, fun i hi => ?_⟩⟩
      · by_cases ei : i = n
        · subst ei
          rw [upd_eq]
          exact fun q => e ((nI_eq (by omega) (by omega)).mp q).symm
        · rw [upd_ne ei]
          exact w.2 i (by omega)
      · have := w.2 i (by omega)
        rw [upd_ne (by omega)] at this
        exact this
  · by_cases ei : i = n
    · subst ei
      exact ⟨y, hy9, upd_eq, hyo.1, x4.tr (Conn.st hx9 hh4 hb (hS _ hx9 x3) (hS _ hy9 hyo.1))⟩
    · obtain ⟨u, u1, u2, u3⟩ := hB.2.1 i (by omega)
      exact ⟨u, u1, by rw [upd_ne ei]; exact u2, u3⟩
  · have := cnt_rem hy 144 hy9
    have := hB.2.2.1
    omega
  · by_cases ey : v2 = y
    · simp only [ey, if_true]
    · simp only [ey, if_false]
      rw [upd_ne (by omega)] at hr
      by_cases w : i = d ∧ h = hh
      · obtain ⟨rfl, rfl⟩ := w
        have : u2 = x' := (nI_eq (by omega) (by omega)).mp (hr.symm.trans hx)
        subst this
        rw [hb] at hb2
        exact absurd (Option.some.inj hb2).symm ey
      · exact hB.2.2.2.1 i h u2 v2 (by omega) (by omega) h4 hr hx2 hb2
  · obtain ⟨i, i1, i2⟩ := hB.2.2.2.2
    exact ⟨i, by omega, by rw [upd_ne (by omega)]; exact i2⟩
theorem BI.fin (hB : BI S o0 k o R n n 0) (hk : k < 144) (hcl : ∀ c, c < 144 → Conn S k c → o0 c = true) : ∀ c, c < 144 → (o c = true ↔ (o0 c = true ∧ ¬ Conn S k c)) := by
  intro c hc
  constructor
  · intro w
    refine ⟨((hB.1 c hc).mp w).1, fun hkc => ?_⟩
    have key := hkc (fun x => x < 144 ∧ Conn S k x ∧ o x = false) ⟨hk, Conn.rf, ?_⟩ (fun x y h hx hh hp hb h1 h2 => ⟨besd_lt hx hb, hp.2.1.tr (Conn.st hx hh hb h1 h2), ?_⟩)
    · rw [key.2.2] at w; cases w
    · cases e : o k with
      | false => rfl
      | true =>
        obtain ⟨i, i1, i2⟩ := hB.2.2.2.2
        exact absurd i2 (((hB.1 k hk).mp e).2 i i1)
    · have hx0 := hcl x hx hp.2.1
      have : ∃ i, i < n ∧ R i = nI x := by
        refine Classical.byContradiction (fun hno => ?_)
        have : o x = true := (hB.1 x hx).mpr ⟨hx0, fun i hi hr => hno ⟨i, hi, hr⟩⟩
        rw [hp.2.2] at this
        cases this
      obtain ⟨i, i1, i2⟩ := this
      exact hB.2.2.2.1 i h x y (by omega) i1 hh i2 hx hb
  · rintro ⟨w1, w2⟩
    refine (hB.1 c hc).mpr ⟨w1, fun i hi hr => ?_⟩
    obtain ⟨x, x1, x2, x3, x4⟩ := hB.2.1 i hi
    have : x = c := (nI_eq (by omega) (by omega)).mp (x2.symm.trans hr)
    subst this
    exact w2 x4
/-! the cells -/
def arL (ab : Nat) (rc : Int32) : List Value := [.ref (ab + 1), .ref (ab + 2), .int rc, .ref (ab + 3)]
def ArAt (M : Hp) (ab : Nat) (O R : Row) (rc : Int32) (C : Row) : Prop := M ab = some (.inr (0, arL ab rc)) ∧ M (ab + 1) = some (aZ 144 O) ∧ M (ab + 2) = some (aI 144 R) ∧ M (ab + 3) = some (aI 144 C)
theorem ArAt.keep {M' : Hp} (h : ArAt M ab O R rc C) (hq : ∀ q, ab ≤ q → q < ab + 4 → M' q = M q) : ArAt M' ab O R rc C :=
  ⟨(hq _ (by omega) (by omega)).trans h.1, (hq _ (by omega) (by omega)).trans h.2.1, (hq _ (by omega) (by omega)).trans h.2.2.1, (hq _ (by omega) (by omega)).trans h.2.2.2⟩
theorem g_arc {m : GM} {pc k n idx : Nat} {L : List (Option Value)} {rest : List Value} (d : dc m pc (.putfield idx) 3) (lk : gFL m idx 0 2 .int false) (hA : ArAt M ab O R rc C) (h : ∀ M1, ArAt M1 ab O R v C → Out M M1 ab 4 → WP m (pc + 3) L rest M1 z k n Φ) : WP m pc L (.int v :: .ref ab :: rest) M z k n Φ :=
  g_put d lk hA.1 rfl rfl (by show 2 < 4; omega) rfl (h _ ⟨hpu_same _ _ _, (hpu_ne _ _ (by omega)).trans hA.2.1, (hpu_ne _ _ (by omega)).trans hA.2.2.1, (hpu_ne _ _ (by omega)).trans hA.2.2.2⟩ (Out.put (by omega) (by omega)))
theorem g_aro {m : GM} {pc k n : Nat} {bq : Bool} {L : List (Option Value)} {rest : List Value} (d : dc m pc .bastore 1) (hA : ArAt M ab O R rc C) (hi : i < 144) (h : ∀ M1, ArAt M1 ab (upd O i (bI bq)) R rc C → Out M M1 ab 4 → WP m (pc + 1) L rest M1 z k n Φ) : WP m pc L (.int (bI bq) :: .int (nI i) :: .ref (ab + 1) :: rest) M z k n Φ :=
  g_zastN d hA.2.1 hi (by decide) (bI_narrow bq) (h _ ⟨(hpu_ne _ _ (by omega)).trans hA.1, hpu_same _ _ _, (hpu_ne _ _ (by omega)).trans hA.2.2.1, (hpu_ne _ _ (by omega)).trans hA.2.2.2⟩ (Out.put (by omega) (by omega)))
theorem g_arr {m : GM} {pc k n : Nat} {L : List (Option Value)} {rest : List Value} (d : dc m pc .iastore 1) (hA : ArAt M ab O R rc C) (hi : i < 144) (h : ∀ M1, ArAt M1 ab O (upd R i v) rc C → Out M M1 ab 4 → WP m (pc + 1) L rest M1 z k n Φ) : WP m pc L (.int v :: .int (nI i) :: .ref (ab + 2) :: rest) M z k n Φ :=
  g_iastN d hA.2.2.1 hi (by decide) (h _ ⟨(hpu_ne _ _ (by omega)).trans hA.1, (hpu_ne _ _ (by omega)).trans hA.2.1, hpu_same _ _ _, (hpu_ne _ _ (by omega)).trans hA.2.2.2⟩ (Out.put (by omega) (by omega)))
theorem g_arch {m : GM} {pc k n : Nat} {L : List (Option Value)} {rest : List Value} (d : dc m pc .iastore 1) (hA : ArAt M ab O R rc C) (hi : i < 144) (h : ∀ M1, ArAt M1 ab O R rc (upd C i v) → Out M M1 ab 4 → WP m (pc + 1) L rest M1 z k n Φ) : WP m pc L (.int v :: .int (nI i) :: .ref (ab + 3) :: rest) M z k n Φ :=
  g_iastN d hA.2.2.2 hi (by decide) (h _ ⟨(hpu_ne _ _ (by omega)).trans hA.1, (hpu_ne _ _ (by omega)).trans hA.2.1, (hpu_ne _ _ (by omega)).trans hA.2.2.1, hpu_same _ _ _⟩ (Out.put (by omega) (by omega)))
theorem q_reachN (hA : ArAt M ab O R rc C) : Runs mX0_reach [.ref ab, .int (-1)] M z (gD none M z) := by
  refine runs_of plX0 rfl (Nat.le_of_ble_eq_true rfl) ?_
  show WP mX0_reach 0 [some (.ref ab), some (.int (-1))] [] M z 0 0 _
  refine g_iload_1 dX0_reach_0 ?_
  refine g_if_lt (tgt := 64) dX0_reach_1 (by decide)  (fun _ => ?_) (fun h1 => absurd (by decide) h1)
  exact g_return rfl dX0_reach_64 (Nat.le_of_ble_eq_true rfl) (Nat.le_of_ble_eq_true rfl) ⟨rfl, rfl, rfl⟩
theorem q_reach0 (hA : ArAt M ab O R rc C) (hi : i < 144) (ho : O i = bI false) : Runs mX0_reach [.ref ab, .int (nI i)] M z (gD none M z) := by
  refine runs_of plX0 rfl (Nat.le_of_ble_eq_true rfl) ?_
  show WP mX0_reach 0 [some (.ref ab), some (.int (nI i))] [] M z 0 0 _
  refine g_iload_1 dX0_reach_0 ?_
  refine g_if_ltN (tgt := 64) dX0_reach_1 (by decide) (by omega) ?_
  refine g_iload_1 dX0_reach_4 ?_
  refine g_sipush (v := nI 144) dX0_reach_5 rfl ?_
  refine g_icmp_geN (tgt := 64) dX0_reach_8 (by decide) (by omega) (by omega) (fun h8 => absurd h8 (by omega)) (fun _ => ?_)
  refine g_aload_0 dX0_reach_11 ?_
  refine g_get dX0_reach_12 (fX0_9 rfl) hA.1 rfl ?_
  refine g_iload_1 dX0_reach_15 ?_
  refine g_zaldN dX0_reach_16 hA.2.1 (by omega) (by decide) ?_
  rw [ho]
  refine g_if_eqB (tgt := 64) dX0_reach_17 (by decide)  (fun _ => ?_) (fun h17 => noFT h17)
  exact g_return rfl dX0_reach_64 (Nat.le_of_ble_eq_true rfl) (Nat.le_of_ble_eq_true rfl) ⟨rfl, rfl, rfl⟩
theorem q_reach1 (hA : ArAt M ab O R (nI n) C) (hi : i < 144) (ho : O i = bI true) (hn : n < 144) : Runs mX0_reach [.ref ab, .int (nI i)] M z (fun r M' z' => r = .inl none ∧ ArAt M' ab (upd O i (bI false)) (upd R n (nI i)) (nI (n + 1)) C ∧ Out M M' ab 4 ∧ z' = z) := by
  refine runs_of plX0 rfl (Nat.le_of_ble_eq_true rfl) ?_
  show WP mX0_reach 0 [some (.ref ab), some (.int (nI i))] [] M z 0 0 _
  refine g_iload_1 dX0_reach_0 ?_
  refine g_if_ltN (tgt := 64) dX0_reach_1 (by decide) (by omega) ?_
  refine g_iload_1 dX0_reach_4 ?_
  refine g_sipush (v := nI 144) dX0_reach_5 rfl ?_
  refine g_icmp_geN (tgt := 64) dX0_reach_8 (by decide) (by omega) (by omega) (fun h8 => absurd h8 (by omega)) (fun _ => ?_)
  refine g_aload_0 dX0_reach_11 ?_
  refine g_get dX0_reach_12 (fX0_9 rfl) hA.1 rfl ?_
  refine g_iload_1 dX0_reach_15 ?_
  refine g_zaldN dX0_reach_16 hA.2.1 (by omega) (by decide) ?_
  rw [ho]
  refine g_if_eqB (tgt := 64) dX0_reach_17 (by decide)  (fun h17 => noTF h17) (fun _ => ?_)
  refine g_aload_0 dX0_reach_20 ?_
  refine g_get dX0_reach_21 (fX0_32 rfl) hA.1 rfl ?_
  refine g_if_ltN (tgt := 64) dX0_reach_24 (by decide) (by omega) ?_
  refine g_aload_0 dX0_reach_27 ?_
  refine g_get dX0_reach_28 (fX0_32 rfl) hA.1 rfl ?_
  refine g_sipush (v := nI 144) dX0_reach_31 rfl ?_
  refine g_icmp_geN (tgt := 64) dX0_reach_34 (by decide) (by omega) (by omega) (fun h34 => absurd h34 (by omega)) (fun _ => ?_)
  refine g_aload_0 dX0_reach_37 ?_
  refine g_get dX0_reach_38 (fX0_9 rfl) hA.1 rfl ?_
  refine g_iload_1 dX0_reach_41 ?_
  refine g_iconst (v := nI 0) dX0_reach_42 rfl ?_
  refine g_aro (bq := false) dX0_reach_43 hA hi (fun M1 hA1 hO1 => ?_)
  refine g_aload_0 dX0_reach_44 ?_
  refine g_get dX0_reach_45 (fX0_15 rfl) hA1.1 rfl ?_
  refine g_aload_0 dX0_reach_48 ?_
  refine g_get dX0_reach_49 (fX0_32 rfl) hA1.1 rfl ?_
  refine g_iload_1 dX0_reach_52 ?_
  refine g_arr dX0_reach_53 hA1 hn (fun M2 hA2 hO2 => ?_)
  refine g_aload_0 dX0_reach_54 ?_
  refine g_dup dX0_reach_55 rfl ?_
  refine g_get dX0_reach_56 (fX0_32 rfl) hA2.1 rfl ?_
  refine g_iconst (v := nI 1) dX0_reach_59 rfl ?_
  refine g_iaddN dX0_reach_60 ?_
  refine g_arc dX0_reach_61 (fX0_32 rfl) hA2 (fun M3 hA3 hO3 => ?_)
  exact g_return rfl dX0_reach_64 (Nat.le_of_ble_eq_true rfl) (Nat.le_of_ble_eq_true rfl) ⟨rfl, hA3, (hO1.tr hO2).tr hO3, rfl⟩
def OB (O : Row) (o : Nat → Bool) : Prop := ∀ c, c < 144 → O c = bI (o c)
theorem OB.set (h : OB O o) : OB (upd O y (bI false)) (fun c => if c = y then false else o c) := fun c hc => by
  by_cases e : c = y
  · subst e
    rw [upd_eq]
    simp
  · rw [upd_ne e, h c hc]
    simp [e]
def SpQ (M : Hp) (ab : Nat) (S o0 : Nat → Bool) (k : Nat) (C : Row) (z : Nat) : GR → Hp → Nat → Prop := fun r M' z' => r = .inl none ∧ (∃ O R rc o, ArAt M' ab O R rc C ∧ OB O o ∧ ∀ c, c < 144 → (o c = true ↔ (o0 c = true ∧ ¬ Conn S k c))) ∧ Out M M' ab 4 ∧ z' = z
theorem q_sp29 (hS : ∀ c, c < 144 → o0 c = true → S c = true) (hd9 : d < 144) (hk : ∀ (o : Nat → Bool) (O R : Row) (n : Nat) (M : Hp) (l3 : Option Value), d < n → BI S o0 k o R n (d + 1) 0 → ArAt M ab O R (nI n) C → OB O o → Out M0 M ab 4 → WP mX0_spreadFrom 12 [some (.ref ab), some (.int (nI k)), some (.int (nI (d + 1))), l3] [] M z 0 0 Φ) : ∀ e hh {o : Nat → Bool} {O R : Row} {n : Nat} {M : Hp}, hh + e = 4 → d < n → BI S o0 k o R n d hh → ArAt M ab O R (nI n) C → OB O o → Out M0 M ab 4 → WP mX0_spreadFrom 29 [some (.ref ab), some (.int (nI k)), some (.int (nI d)), some (.int (nI hh))] [] M z 0 0 Φ := by
  intro e
  induction e with
  | zero =>
    intro hh o O R n M he hdn hB hA hOB hO
    refine g_iload_3 dX0_spreadFrom_29 ?_
    refine g_iconst (v := nI 4) dX0_spreadFrom_30 rfl ?_
    refine g_icmp_geN (tgt := 54) dX0_spreadFrom_31 (by decide) (by omega) (by omega) (fun _ => ?_) (fun h31 => absurd h31 (by omega))
    refine g_iincN_2 (q := 1) rfl dX0_spreadFrom_54 rfl ?_
    refine g_goto (tgt := 12) dX0_spreadFrom_57 (by decide) ?_
    exact hk o O R n M _ hdn (by have e : hh = 4 := (by omega); subst e; exact hB.next) hA hOB hO
  | succ e ih =>
    intro hh o O R n M he hdn hB hA hOB hO
    obtain ⟨x, x1, x2, x3, x4⟩ := hB.2.1 d hdn
    cases hb : besd x hh with
    | none =>
      refine g_iload_3 dX0_spreadFrom_29 ?_
      refine g_iconst (v := nI 4) dX0_spreadFrom_30 rfl ?_
      refine g_icmp_geN (tgt := 54) dX0_spreadFrom_31 (by decide) (by omega) (by omega) (fun h31 => absurd h31 (by omega)) (fun _ => ?_)
      refine g_aload_0 dX0_spreadFrom_34 ?_
      refine g_aload_0 dX0_spreadFrom_35 ?_
      refine g_get dX0_spreadFrom_36 (fX0_15 rfl) hA.1 rfl ?_
      refine g_iload_2 dX0_spreadFrom_39 ?_
      refine g_ialdN dX0_spreadFrom_40 hA.2.2.1 (by omega) (by decide) ?_
      rw [x2]
      refine g_iload_3 dX0_spreadFrom_41 ?_
      refine g_s2_1 dX0_spreadFrom_42 (sX0_39 rfl) rfl (Nat.le_of_ble_eq_true rfl) ⟨rfl, rfl⟩ (Nat.le_of_ble_eq_true rfl) (Nat.le_of_ble_eq_true rfl) ((by have e := c_beside (z := z) (M := M) x1 (show hh < 4 by omega); rw [hb] at e; exact e)) ?_
      refine g_v1_0 dX0_spreadFrom_45 (vX0_36 rfl) rfl hA.1 (Nat.le_of_ble_eq_true rfl) ⟨rfl, rfl⟩ (Nat.le_of_ble_eq_true rfl) (Nat.le_of_ble_eq_true rfl) (q_reachN hA) ?_
      refine g_iincN_3 (q := 1) rfl dX0_spreadFrom_48 rfl ?_
      refine g_goto (tgt := 29) dX0_spreadFrom_51 (by decide) ?_
      exact ih (hh + 1) (by omega) hdn (hB.skip x2 x1 (fun y hy => by rw [hb] at hy; cases hy)) hA hOB hO
    | some y =>
      have hy9 : y < 144 := besd_lt x1 hb
      cases hy : o y with
      | false =>
        refine g_iload_3 dX0_spreadFrom_29 ?_
        refine g_iconst (v := nI 4) dX0_spreadFrom_30 rfl ?_
        refine g_icmp_geN (tgt := 54) dX0_spreadFrom_31 (by decide) (by omega) (by omega) (fun h31 => absurd h31 (by omega)) (fun _ => ?_)
        refine g_aload_0 dX0_spreadFrom_34 ?_
        refine g_aload_0 dX0_spreadFrom_35 ?_
        refine g_get dX0_spreadFrom_36 (fX0_15 rfl) hA.1 rfl ?_
        refine g_iload_2 dX0_spreadFrom_39 ?_
        refine g_ialdN dX0_spreadFrom_40 hA.2.2.1 (by omega) (by decide) ?_
        rw [x2]
        refine g_iload_3 dX0_spreadFrom_41 ?_
        refine g_s2_1 dX0_spreadFrom_42 (sX0_39 rfl) rfl (Nat.le_of_ble_eq_true rfl) ⟨rfl, rfl⟩ (Nat.le_of_ble_eq_true rfl) (Nat.le_of_ble_eq_true rfl) ((by have e := c_beside (z := z) (M := M) x1 (show hh < 4 by omega); rw [hb] at e; exact e)) ?_
        refine g_v1_0 dX0_spreadFrom_45 (vX0_36 rfl) rfl hA.1 (Nat.le_of_ble_eq_true rfl) ⟨rfl, rfl⟩ (Nat.le_of_ble_eq_true rfl) (Nat.le_of_ble_eq_true rfl) (q_reach0 hA hy9 ((hOB y hy9).trans (by rw [hy]))) ?_
        refine g_iincN_3 (q := 1) rfl dX0_spreadFrom_48 rfl ?_
        refine g_goto (tgt := 29) dX0_spreadFrom_51 (by decide) ?_
        exact ih (hh + 1) (by omega) hdn (hB.skip x2 x1 (fun y' hy' => by rw [hb] at hy'; cases hy'; exact hy)) hA hOB hO
      | true =>
        refine g_iload_3 dX0_spreadFrom_29 ?_
        refine g_iconst (v := nI 4) dX0_spreadFrom_30 rfl ?_
        refine g_icmp_geN (tgt := 54) dX0_spreadFrom_31 (by decide) (by omega) (by omega) (fun h31 => absurd h31 (by omega)) (fun _ => ?_)
        refine g_aload_0 dX0_spreadFrom_34 ?_
        refine g_aload_0 dX0_spreadFrom_35 ?_
        refine g_get dX0_spreadFrom_36 (fX0_15 rfl) hA.1 rfl ?_
        refine g_iload_2 dX0_spreadFrom_39 ?_
        refine g_ialdN dX0_spreadFrom_40 hA.2.2.1 (by omega) (by decide) ?_
        rw [x2]
        refine g_iload_3 dX0_spreadFrom_41 ?_
        refine g_s2_1 dX0_spreadFrom_42 (sX0_39 rfl) rfl (Nat.le_of_ble_eq_true rfl) ⟨rfl, rfl⟩ (Nat.le_of_ble_eq_true rfl) (Nat.le_of_ble_eq_true rfl) ((by have e := c_beside (z := z) (M := M) x1 (show hh < 4 by omega); rw [hb] at e; exact e)) ?_
        refine g_v1 dX0_spreadFrom_45 (vX0_36 rfl) rfl hA.1 (Nat.le_of_ble_eq_true rfl) (Nat.le_of_ble_eq_true rfl) (Nat.le_of_ble_eq_true rfl) (q_reach1 hA hy9 ((hOB y hy9).trans (by rw [hy])) (hB.lt hy9 hy)) (fun r M2 z2 hq => ?_) (fun E M2 z2 hq => by obtain ⟨hq, -⟩ := hq; cases hq)
        obtain ⟨hr, hA1, hO1, rfl⟩ := hq
        cases hr
        refine g_iincN_3 (q := 1) rfl dX0_spreadFrom_48 rfl ?_
        refine g_goto (tgt := 29) dX0_spreadFrom_51 (by decide) ?_
        exact ih (hh + 1) (by omega) (by omega) (hB.take hS hdn x2 x1 (by omega) hb hy) hA1 hOB.set (hO.tr hO1)
theorem q_sp12 (hS : ∀ c, c < 144 → o0 c = true → S c = true) (hk9 : k < 144) (hcl : ∀ c, c < 144 → Conn S k c → o0 c = true) : ∀ e d {o : Nat → Bool} {O R : Row} {n : Nat} {M : Hp} {l3 : Option Value}, d + e = 145 → d ≤ n → BI S o0 k o R n d 0 → ArAt M ab O R (nI n) C → OB O o → Out M0 M ab 4 → WP mX0_spreadFrom 12 [some (.ref ab), some (.int (nI k)), some (.int (nI d)), l3] [] M z 0 0 (SpQ M0 ab S o0 k C z) := by
  intro e
  induction e with
  | zero =>
    intro d o O R n M l3 he hdn hB hA hOB hO
    exact absurd hB.2.2.1 (by omega)
  | succ e ih =>
    intro d o O R n M l3 he hdn hB hA hOB hO
    have hn := hB.2.2.1
    by_cases hd : d < n
    · skip
      refine g_iload_2 dX0_spreadFrom_12 ?_
      refine g_aload_0 dX0_spreadFrom_13 ?_
      refine g_get dX0_spreadFrom_14 (fX0_32 rfl) hA.1 rfl ?_
      refine g_icmp_geN (tgt := 60) dX0_spreadFrom_17 (by decide) (by omega) (by omega) (fun h17 => absurd h17 (by omega)) (fun _ => ?_)
      refine g_iload_2 dX0_spreadFrom_20 ?_
      refine g_sipush (v := nI 144) dX0_spreadFrom_21 rfl ?_
      refine g_icmp_geN (tgt := 60) dX0_spreadFrom_24 (by decide) (by omega) (by omega) (fun h24 => absurd h24 (by omega)) (fun _ => ?_)
      refine g_iconst (v := nI 0) dX0_spreadFrom_27 rfl ?_
      refine g_istore_3 rfl dX0_spreadFrom_28 ?_
      exact q_sp29 hS (by omega) (fun o O R n M l3 hdn hB hA hOB hO => ih (d + 1) (by omega) (by omega) hB hA hOB hO) 4 0 rfl (by omega) hB hA hOB hO
    · skip
      refine g_iload_2 dX0_spreadFrom_12 ?_
      refine g_aload_0 dX0_spreadFrom_13 ?_
      refine g_get dX0_spreadFrom_14 (fX0_32 rfl) hA.1 rfl ?_
      refine g_icmp_geN (tgt := 60) dX0_spreadFrom_17 (by decide) (by omega) (by omega) (fun _ => ?_) (fun h17 => absurd h17 (by omega))
      exact g_return rfl dX0_spreadFrom_60 (Nat.le_of_ble_eq_true rfl) (Nat.le_of_ble_eq_true rfl) ⟨rfl, ⟨O, R, nI n, o, hA, hOB, (by have e : d = n := (by omega); subst e; exact hB.fin hk9 hcl)⟩, hO, rfl⟩
theorem q_spreadFrom (hA : ArAt M ab O R rc C) (hOB : OB O o0) (hS : ∀ c, c < 144 → o0 c = true → S c = true) (hk9 : k < 144) (h0 : o0 k = true) (hcl : ∀ c, c < 144 → Conn S k c → o0 c = true) : Runs mX0_spreadFrom [.ref ab, .int (nI k)] M z (SpQ M ab S o0 k C z) := by
  have hao := hA.1
  refine runs_of plX0 rfl (Nat.le_of_ble_eq_true rfl) ?_
  show WP mX0_spreadFrom 0 [some (.ref ab), some (.int (nI k)), none, none] [] M z 0 0 _
  refine g_aload_0 dX0_spreadFrom_0 ?_
  refine g_iconst (v := nI 0) dX0_spreadFrom_1 rfl ?_
  refine g_arc dX0_spreadFrom_2 (fX0_32 rfl) hA (fun M1 hA1 hO1 => ?_)
  refine g_aload_0 dX0_spreadFrom_5 ?_
  refine g_iload_1 dX0_spreadFrom_6 ?_
  refine g_v1 dX0_spreadFrom_7 (vX0_36 rfl) rfl hA1.1 (Nat.le_of_ble_eq_true rfl) (Nat.le_of_ble_eq_true rfl) (Nat.le_of_ble_eq_true rfl) (q_reach1 (n := 0) hA1 hk9 ((hOB k hk9).trans (by rw [h0])) (by decide)) (fun r M2 z2 hq => ?_) (fun E M2 z2 hq => by obtain ⟨hq, -⟩ := hq; cases hq)
  obtain ⟨hr, hA2, hO2, rfl⟩ := hq
  cases hr
  refine g_iconst (v := nI 0) dX0_spreadFrom_10 rfl ?_
  refine g_istore_2 rfl dX0_spreadFrom_11 ?_
  exact q_sp12 hS hk9 hcl 145 0 rfl (by omega) (BI.start hk9 h0) hA2 hOB.set (hO1.tr hO2)
def clS (p : Row) (c : Nat) : Nat → Bool := fun k => decide (p k = nI c)
def iniO (p O : Row) (c t : Nat) : Row := fun k => if k < t then bI (decide (p k = nI c)) else O k
theorem iniO_step : upd (iniO p O c i) i (bI (decide (p i = nI c))) = iniO p O c (i + 1) := by
  funext k
  simp only [upd, iniO]
  by_cases h : k = i
  · subst h
    rw [if_pos rfl, if_pos (show k < k + 1 from Nat.lt_succ_self k)]
  · rw [if_neg h]
    by_cases h2 : k < i
    · rw [if_pos h2, if_pos (show k < i + 1 by omega)]
    · rw [if_neg h2, if_neg (show ¬ k < i + 1 by omega)]
/-- what is open where the cells below i have been looked at -/
def OpI (S o : Nat → Bool) (i : Nat) : Prop := ∀ c, c < 144 → (o c = true ↔ (S c = true ∧ ∀ d, d < i → ¬ Conn S d c))
theorem OpI.least (h : OpI S o i) (hi : i < 144) : o i = true ↔ IsL S i := by
  rw [h i hi]
  refine ⟨fun w => ⟨w.1, fun d hd hc => Nat.le_of_not_lt (fun q => w.2 d q hc)⟩, fun w => ⟨w.1, fun d hd hc => ?_⟩⟩
  have := w.2 d (by omega) hc
  omega
theorem OpI.next0 (h : OpI S o i) (hi : i < 144) (ho : o i = false) : OpI S o (i + 1) := by
  intro c hc
  rw [h c hc]
  refine ⟨fun w => ⟨w.1, fun d hd hdc => ?_⟩, fun w => ⟨w.1, fun d hd => w.2 d (by omega)⟩⟩
  by_cases e : d = i
  · subst e
    have hS : S d = true := hdc.sym.mem w.1
    have : o d = true := (h d hi).mpr ⟨hS, fun d' hd' hc' => w.2 d' hd' (hc'.tr hdc)⟩
    rw [ho] at this
    cases this
  · exact w.2 d (by omega) hdc
theorem OpI.next1 {o' : Nat → Bool} (h : OpI S o i) (ho : ∀ c, c < 144 → (o' c = true ↔ (o c = true ∧ ¬ Conn S i c))) : OpI S o' (i + 1) := by
  intro c hc
  rw [ho c hc, h c hc]
  refine ⟨fun w => ⟨w.1.1, fun d hd hdc => ?_⟩, fun w => ⟨⟨w.1, fun d hd => w.2 d (by omega)⟩, w.2 i (by omega)⟩⟩
  by_cases e : d = i
  · subst e; exact w.2 hdc
  · exact w.1.2 d (by omega) hdc
theorem OpI.cl (h : OpI S o i) (hi : i < 144) (ho : o i = true) : ∀ c, c < 144 → Conn S i c → o c = true := by
  intro c hc hic
  have w := (h i hi).mp ho
  exact (h c hc).mpr ⟨hic.mem w.1, fun d hd hdc => w.2 d hd (hdc.tr hic.sym)⟩
def ACQ (M : Hp) (ab n z : Nat) : GR → Hp → Nat → Prop := fun r M' z' => r = .inl (some (.int (nI n))) ∧ (∃ O R rc C, ArAt M' ab O R rc C) ∧ Out M M' ab 4 ∧ z' = z
theorem q_cs2 (hC : CanvasAt M0 cb p q ht) (hcd : cb + 4 ≤ ab ∨ ab + 4 ≤ cb) (hk : ∀ M, ArAt M ab (iniO p O c 144) R rc C → Out M0 M ab 4 → WP mX0_countSpreading 35 [some (.ref ab), some (.ref cb), some (.int (nI c)), some (.int (nI 144)), none] [] M z 0 0 Φ) : ∀ d i {M : Hp}, i + d = 144 → ArAt M ab (iniO p O c i) R rc C → Out M0 M ab 4 → WP mX0_countSpreading 2 [some (.ref ab), some (.ref cb), some (.int (nI c)), some (.int (nI i)), none] [] M z 0 0 Φ := by
  intro d
  induction d with
  | zero =>
    intro i M hi hA hO
    obtain rfl : i = 144 := by omega
    refine g_iload_3 dX0_countSpreading_2 ?_
    refine g_sipush (v := nI 144) dX0_countSpreading_3 rfl ?_
    refine g_icmp_geN (tgt := 35) dX0_countSpreading_6 (by decide) (by omega) (by omega) (fun _ => ?_) (fun h6 => absurd h6 (by omega))
    exact hk M hA hO
  | succ d ih =>
    intro i M hi hA hO
    have hC1 : CanvasAt M cb p q ht := hC.keep (fun b b1 b2 => hO b (by omega))
    refine g_iload_3 dX0_countSpreading_2 ?_
    refine g_sipush (v := nI 144) dX0_countSpreading_3 rfl ?_
    refine g_icmp_geN (tgt := 35) dX0_countSpreading_6 (by decide) (by omega) (by omega) (fun h6 => absurd h6 (by omega)) (fun _ => ?_)
    refine g_aload_0 dX0_countSpreading_9 ?_
    refine g_get dX0_countSpreading_10 (fX0_9 rfl) hA.1 rfl ?_
    refine g_iload_3 dX0_countSpreading_13 ?_
    refine g_aload_1 dX0_countSpreading_14 ?_
    refine g_iload_3 dX0_countSpreading_15 ?_
    refine g_v1_1 dX0_countSpreading_16 (vX0_22 rfl) rfl hC1.1 (Nat.le_of_ble_eq_true rfl) ⟨rfl, rfl⟩ (Nat.le_of_ble_eq_true rfl) (Nat.le_of_ble_eq_true rfl) (c_planAt hC1 (by omega)) ?_
    refine g_iload_2 dX0_countSpreading_19 ?_
    refine g_icmp_ne (tgt := 27) dX0_countSpreading_20 (by decide)  (fun h20 => ?_) (fun h20 => ?_)
    · refine g_iconst (v := nI 0) dX0_countSpreading_27 rfl ?_
      refine g_aro (bq := false) dX0_countSpreading_28 hA (by omega) (fun M1 hA1 hO1 => ?_)
      refine g_iincN_3 (q := 1) rfl dX0_countSpreading_29 rfl ?_
      refine g_goto (tgt := 2) dX0_countSpreading_32 (by decide) ?_
      have e := iniO_step (p := p) (O := O) (c := c) (i := i)
      rw [decide_eq_false h20] at e
      rw [e] at hA1
      exact ih (i + 1) (by omega) hA1 (hO.tr hO1)
    · refine g_iconst (v := nI 1) dX0_countSpreading_23 rfl ?_
      refine g_goto (tgt := 28) dX0_countSpreading_24 (by decide) ?_
      refine g_aro (bq := true) dX0_countSpreading_28 hA (by omega) (fun M1 hA1 hO1 => ?_)
      refine g_iincN_3 (q := 1) rfl dX0_countSpreading_29 rfl ?_
      refine g_goto (tgt := 2) dX0_countSpreading_32 (by decide) ?_
      have e := iniO_step (p := p) (O := O) (c := c) (i := i)
      rw [decide_eq_true h20] at e
      rw [e] at hA1
      exact ih (i + 1) (by omega) hA1 (hO.tr hO1)
theorem q_cs40 : ∀ d i {o : Nat → Bool} {O R C : Row} {rc : Int32} {M : Hp}, i + d = 144 → OpI (clS p c) o i → ArAt M ab O R rc C → OB O o → Out M0 M ab 4 → WP mX0_countSpreading 40 [some (.ref ab), some (.ref cb), some (.int (nI c)), some (.int (nI (cnt (lsB (clS p c)) i))), some (.int (nI i))] [] M z 0 0 (ACQ M0 ab (nArea (clS p c)) z) := by
  intro d
  induction d with
  | zero =>
    intro i o O R C rc M hi hop hA hOB hO
    obtain rfl : i = 144 := by omega
    refine g_iload_4 dX0_countSpreading_40 ?_
    refine g_sipush (v := nI 144) dX0_countSpreading_42 rfl ?_
    refine g_icmp_geN (tgt := 73) dX0_countSpreading_45 (by decide) (by omega) (by omega) (fun _ => ?_) (fun h45 => absurd h45 (by omega))
    refine g_iload_3 dX0_countSpreading_73 ?_
    exact g_ireturn rfl rfl dX0_countSpreading_74 (Nat.le_of_ble_eq_true rfl) (Nat.le_of_ble_eq_true rfl) ⟨rfl, ⟨O, R, rc, C, hA⟩, hO, rfl⟩
  | succ d ih =>
    intro i o O R C rc M hi hop hA hOB hO
    refine g_iload_4 dX0_countSpreading_40 ?_
    refine g_sipush (v := nI 144) dX0_countSpreading_42 rfl ?_
    refine g_icmp_geN (tgt := 73) dX0_countSpreading_45 (by decide) (by omega) (by omega) (fun h45 => absurd h45 (by omega)) (fun _ => ?_)
    refine g_aload_0 dX0_countSpreading_48 ?_
    refine g_get dX0_countSpreading_49 (fX0_9 rfl) hA.1 rfl ?_
    refine g_iload_4 dX0_countSpreading_52 ?_
    refine g_zaldN dX0_countSpreading_54 hA.2.1 (by omega) (by decide) ?_
    rw [hOB i (by omega)]
    refine g_if_eqB (tgt := 67) dX0_countSpreading_55 (by decide)  (fun h55 => ?_) (fun h55 => ?_)
    · have e : cnt (lsB (clS p c)) (i + 1) = cnt (lsB (clS p c)) i := cnt_f (P := lsB (clS p c)) (n := i) (by cases e : lsB (clS p c) i with | false => rfl | true => exact absurd ((hop.least (by omega)).mpr (lsB_iff.mp e)) (by rw [h55]; decide))
      refine g_iincN_4 (q := 1) rfl dX0_countSpreading_67 rfl ?_
      refine g_goto (tgt := 40) dX0_countSpreading_70 (by decide) ?_
      rw [← e]
      first
        | exact ih (i + 1) (by omega) (hop.next0 (by omega) h55) hA hOB hO
        | exact ih (i + 1) (by omega) (hop.next1 ho1) hA1 hOB1 (hO.tr hO1)
    · have e := cnt_t (P := lsB (clS p c)) (n := i) (lsB_iff.mpr ((hop.least (by omega)).mp h55))
      refine g_iincN_3 (q := 1) rfl dX0_countSpreading_58 rfl ?_
      refine g_aload_0 dX0_countSpreading_61 ?_
      refine g_iload_4 dX0_countSpreading_62 ?_
      refine g_v1 dX0_countSpreading_64 (vX0_28 rfl) rfl hA.1 (Nat.le_of_ble_eq_true rfl) (Nat.le_of_ble_eq_true rfl) (Nat.le_of_ble_eq_true rfl) (q_spreadFrom (S := clS p c) (o0 := o) hA hOB (fun c hc hc1 => ((hop c hc).mp hc1).1) (by omega) h55 (hop.cl (by omega) h55)) (fun r M2 z2 hq => ?_) (fun E M2 z2 hq => by obtain ⟨hq, -⟩ := hq; cases hq)
      obtain ⟨hr, ⟨O', R', rc', o', hA1, hOB1, ho1⟩, hO1, rfl⟩ := hq
      cases hr
      refine g_iincN_4 (q := 1) rfl dX0_countSpreading_67 rfl ?_
      refine g_goto (tgt := 40) dX0_countSpreading_70 (by decide) ?_
      rw [← e]
      first
        | exact ih (i + 1) (by omega) (hop.next0 (by omega) h55) hA hOB hO
        | exact ih (i + 1) (by omega) (hop.next1 ho1) hA1 hOB1 (hO.tr hO1)
theorem q_countSpreading (hC : CanvasAt M cb p q ht) (hcd : cb + 4 ≤ ab ∨ ab + 4 ≤ cb) (hA : ArAt M ab O R rc C) : Runs mX0_countSpreading [.ref ab, .ref cb, .int (nI c)] M z (ACQ M ab (nArea (clS p c)) z) := by
  refine runs_of plX0 rfl (Nat.le_of_ble_eq_true rfl) ?_
  show WP mX0_countSpreading 0 [some (.ref ab), some (.ref cb), some (.int (nI c)), none, none] [] M z 0 0 _
  refine g_iconst (v := nI 0) dX0_countSpreading_0 rfl ?_
  refine g_istore_3 rfl dX0_countSpreading_1 ?_
  refine q_cs2 (R := R) (rc := rc) (C := C) (O := O) hC hcd (fun M1 hA1 hO1 => ?_) 144 0 rfl (by rw [show iniO p O c 0 = O from by funext k; exact if_neg (by omega)]; exact hA) Out.rf
  refine g_iconst (v := nI 0) dX0_countSpreading_35 rfl ?_
  refine g_istore_3 rfl dX0_countSpreading_36 ?_
  refine g_iconst (v := nI 0) dX0_countSpreading_37 rfl ?_
  refine g_istore_4 rfl dX0_countSpreading_38 ?_
  exact q_cs40 (o := clS p c) 144 0 rfl (fun c _ => ⟨fun w => ⟨w, fun d hd => by omega⟩, fun w => w.1⟩) hA1 (fun c hc => if_pos hc) hO1
end P60
