section P50
variable {M M0 : Hp} {z a b c d e j i n t p q s sp st pb k : Nat} {f : Row} {x y w v od bk lv : Int32} {sc : Nat → Option Nat} {pl gr ti : Row} {g : Nat → Nat} {len : Nat} {T : Nat → Nat → Nat} {Ln : Nat → Nat} {Φ : GR → Hp → Nat → Prop}
def plyL (pb : Nat) (lv od bk : Int32) : List Value := [.ref (pb + 1), .ref (pb + 2), .ref (pb + 3), .ref (pb + 4), .int lv, .int od, .int bk]
/-- the player's cells: texts, places, groups, times; level, orders, broken -/
def PlAt (M : Hp) (pb : Nat) (sc : Nat → Option Nat) (pl gr ti : Row) (lv od bk : Int32) : Prop := M pb = some (.inr (3, plyL pb lv od bk)) ∧ M (pb + 1) = some (aS 5 sc) ∧ M (pb + 2) = some (aI 5 pl) ∧ M (pb + 3) = some (aI 5 gr) ∧ M (pb + 4) = some (aI 5 ti)
theorem PlAt.keep {M' : Hp} (h : PlAt M pb sc pl gr ti lv od bk) (hq : ∀ q, pb ≤ q → q < pb + 5 → M' q = M q) : PlAt M' pb sc pl gr ti lv od bk :=
  ⟨(hq _ (by omega) (by omega)).trans h.1, (hq _ (by omega) (by omega)).trans h.2.1, (hq _ (by omega) (by omega)).trans h.2.2.1, (hq _ (by omega) (by omega)).trans h.2.2.2.1, (hq _ (by omega) (by omega)).trans h.2.2.2.2⟩
theorem g_plv {m : GM} {pc k n idx : Nat} {L : List (Option Value)} {rest : List Value} (d : dc m pc (.putfield idx) 3) (lk : gFL m idx 3 4 .int false) (hA : PlAt M pb sc pl gr ti lv od bk) (h : ∀ M1, PlAt M1 pb sc pl gr ti v od bk → Out M M1 pb 5 → WP m (pc + 3) L rest M1 z k n Φ) : WP m pc L (.int v :: .ref pb :: rest) M z k n Φ :=
  g_put d lk hA.1 rfl rfl (by show 4 < 7; omega) rfl (h _ ⟨hpu_same _ _ _, (hpu_ne _ _ (by omega)).trans hA.2.1, (hpu_ne _ _ (by omega)).trans hA.2.2.1, (hpu_ne _ _ (by omega)).trans hA.2.2.2.1, (hpu_ne _ _ (by omega)).trans hA.2.2.2.2⟩ (Out.put (by omega) (by omega)))
theorem g_pod {m : GM} {pc k n idx : Nat} {L : List (Option Value)} {rest : List Value} (d : dc m pc (.putfield idx) 3) (lk : gFL m idx 3 5 .int false) (hA : PlAt M pb sc pl gr ti lv od bk) (h : ∀ M1, PlAt M1 pb sc pl gr ti lv v bk → Out M M1 pb 5 → WP m (pc + 3) L rest M1 z k n Φ) : WP m pc L (.int v :: .ref pb :: rest) M z k n Φ :=
  g_put d lk hA.1 rfl rfl (by show 5 < 7; omega) rfl (h _ ⟨hpu_same _ _ _, (hpu_ne _ _ (by omega)).trans hA.2.1, (hpu_ne _ _ (by omega)).trans hA.2.2.1, (hpu_ne _ _ (by omega)).trans hA.2.2.2.1, (hpu_ne _ _ (by omega)).trans hA.2.2.2.2⟩ (Out.put (by omega) (by omega)))
theorem g_pbk {m : GM} {pc k n idx : Nat} {L : List (Option Value)} {rest : List Value} (d : dc m pc (.putfield idx) 3) (lk : gFL m idx 3 6 .int false) (hA : PlAt M pb sc pl gr ti lv od bk) (h : ∀ M1, PlAt M1 pb sc pl gr ti lv od v → Out M M1 pb 5 → WP m (pc + 3) L rest M1 z k n Φ) : WP m pc L (.int v :: .ref pb :: rest) M z k n Φ :=
  g_put d lk hA.1 rfl rfl (by show 6 < 7; omega) rfl (h _ ⟨hpu_same _ _ _, (hpu_ne _ _ (by omega)).trans hA.2.1, (hpu_ne _ _ (by omega)).trans hA.2.2.1, (hpu_ne _ _ (by omega)).trans hA.2.2.2.1, (hpu_ne _ _ (by omega)).trans hA.2.2.2.2⟩ (Out.put (by omega) (by omega)))
theorem g_papl {m : GM} {pc k n : Nat} {L : List (Option Value)} {rest : List Value} (d : dc m pc .iastore 1) (hA : PlAt M pb sc pl gr ti lv od bk) (hi : i < 5) (h : ∀ M1, PlAt M1 pb sc (upd pl i v) gr ti lv od bk → Out M M1 pb 5 → WP m (pc + 1) L rest M1 z k n Φ) : WP m pc L (.int v :: .int (nI i) :: .ref (pb + 2) :: rest) M z k n Φ :=
  g_iastN d hA.2.2.1 hi (by decide) (h _ ⟨(hpu_ne _ _ (by omega)).trans hA.1, (hpu_ne _ _ (by omega)).trans hA.2.1, hpu_same _ _ _, (hpu_ne _ _ (by omega)).trans hA.2.2.2.1, (hpu_ne _ _ (by omega)).trans hA.2.2.2.2⟩ (Out.put (by omega) (by omega)))
theorem g_pagr {m : GM} {pc k n : Nat} {L : List (Option Value)} {rest : List Value} (d : dc m pc .iastore 1) (hA : PlAt M pb sc pl gr ti lv od bk) (hi : i < 5) (h : ∀ M1, PlAt M1 pb sc pl (upd gr i v) ti lv od bk → Out M M1 pb 5 → WP m (pc + 1) L rest M1 z k n Φ) : WP m pc L (.int v :: .int (nI i) :: .ref (pb + 3) :: rest) M z k n Φ :=
  g_iastN d hA.2.2.2.1 hi (by decide) (h _ ⟨(hpu_ne _ _ (by omega)).trans hA.1, (hpu_ne _ _ (by omega)).trans hA.2.1, (hpu_ne _ _ (by omega)).trans hA.2.2.1, hpu_same _ _ _, (hpu_ne _ _ (by omega)).trans hA.2.2.2.2⟩ (Out.put (by omega) (by omega)))
theorem g_pati {m : GM} {pc k n : Nat} {L : List (Option Value)} {rest : List Value} (d : dc m pc .iastore 1) (hA : PlAt M pb sc pl gr ti lv od bk) (hi : i < 5) (h : ∀ M1, PlAt M1 pb sc pl gr (upd ti i v) lv od bk → Out M M1 pb 5 → WP m (pc + 1) L rest M1 z k n Φ) : WP m pc L (.int v :: .int (nI i) :: .ref (pb + 4) :: rest) M z k n Φ :=
  g_iastN d hA.2.2.2.2 hi (by decide) (h _ ⟨(hpu_ne _ _ (by omega)).trans hA.1, (hpu_ne _ _ (by omega)).trans hA.2.1, (hpu_ne _ _ (by omega)).trans hA.2.2.1, (hpu_ne _ _ (by omega)).trans hA.2.2.2.1, hpu_same _ _ _⟩ (Out.put (by omega) (by omega)))
theorem g_pasc {m : GM} {pc k n : Nat} {gs : List Value} {L : List (Option Value)} {rest : List Value} (d : dc m pc .aastore 1) (hA : PlAt M pb sc pl gr ti lv od bk) (hi : i < 5) (hb : M s = some (.inr (5, gs))) (h : ∀ M1, PlAt M1 pb (va_up sc i (some s)) pl gr ti lv od bk → Out M M1 pb 5 → WP m (pc + 1) L rest M1 z k n Φ) : WP m pc L (.ref s :: .int (nI i) :: .ref (pb + 1) :: rest) M z k n Φ :=
  g_aastQ (kd := 5) d (by decide) hA.2.1 rfl hb rfl hi (by decide) (fun M1 h1 n1 => h M1 ⟨(n1 _ (by omega)).trans hA.1, h1, (n1 _ (by omega)).trans hA.2.2.1, (n1 _ (by omega)).trans hA.2.2.2.1, (n1 _ (by omega)).trans hA.2.2.2.2⟩ (fun q hq => n1 q (by omega)))
theorem nI_nltm : ∀ {k : Nat}, k < 2 ^ 31 → ¬ nI k < -1 := fun {k} h w => by
  rw [Int32.lt_iff_toInt_lt, nI_toInt h] at w
  have : (-1 : Int32).toInt = -1 := by decide
  omega
def PlQ (v : Option Value) (M : Hp) (pb : Nat) (sc : Nat → Option Nat) (pl gr ti : Row) (lv od bk : Int32) (z : Nat) : GR → Hp → Nat → Prop := fun r M' z' => r = .inl v ∧ PlAt M' pb sc pl gr ti lv od bk ∧ Out M M' pb 5 ∧ z' = z
theorem q_enter0 {gs : List Value} (hA : PlAt M pb sc pl gr ti (-1) od bk) (hs : M s = some (.inr (5, gs))) (hd : s < pb ∨ pb + 5 ≤ s) : Runs mX3_enter [.ref pb, .ref s] M z (PlQ (some (.int (nI 1))) M pb (va_up sc 0 (some s)) (upd pl 0 (nI 0)) gr (upd ti 0 (nI 0)) (nI 0) od bk z) := by
  refine runs_of plX3 rfl (Nat.le_of_ble_eq_true rfl) ?_
  show WP mX3_enter 0 [some (.ref pb), some (.ref s)] [] M z 0 0 _
  refine g_aload_1 dX3_enter_0 ?_
  refine g_ifnull dX3_enter_1 ?_
  refine g_aload_0 dX3_enter_4 ?_
  refine g_get dX3_enter_5 (fX3_27 rfl) hA.1 rfl ?_
  refine g_iconst (v := -1) dX3_enter_8 rfl ?_
  refine g_icmp_lt (tgt := 20) dX3_enter_9 (by decide)  (fun h9 => absurd h9 (by decide)) (fun _ => ?_)
  refine g_aload_0 dX3_enter_12 ?_
  refine g_get dX3_enter_13 (fX3_27 rfl) hA.1 rfl ?_
  refine g_iconst (v := nI 4) dX3_enter_16 rfl ?_
  refine g_icmp_lt (tgt := 22) dX3_enter_17 (by decide)  (fun _ => ?_) (fun h17 => absurd (by decide) h17)
  refine g_aload_0 dX3_enter_22 ?_
  refine g_dup dX3_enter_23 rfl ?_
  refine g_get dX3_enter_24 (fX3_27 rfl) hA.1 rfl ?_
  refine g_iconst (v := nI 1) dX3_enter_27 rfl ?_
  refine g_iadd dX3_enter_28 ?_
  rw [show (-1 : Int32) + nI 1 = nI 0 from by decide]
  refine g_plv dX3_enter_29 (fX3_27 rfl) hA (fun M1 hA1 hO1 => ?_)
  refine g_aload_0 dX3_enter_32 ?_
  refine g_get dX3_enter_33 (fX3_13 rfl) hA1.1 rfl ?_
  refine g_aload_0 dX3_enter_36 ?_
  refine g_get dX3_enter_37 (fX3_27 rfl) hA1.1 rfl ?_
  refine g_aload_1 dX3_enter_40 ?_
  refine g_pasc dX3_enter_41 hA1 (by omega) ((hO1 _ (by omega)).trans hs) (fun M2 hA2 hO2 => ?_)
  refine g_aload_0 dX3_enter_42 ?_
  refine g_get dX3_enter_43 (fX3_17 rfl) hA2.1 rfl ?_
  refine g_aload_0 dX3_enter_46 ?_
  refine g_get dX3_enter_47 (fX3_27 rfl) hA2.1 rfl ?_
  refine g_iconst (v := nI 0) dX3_enter_50 rfl ?_
  refine g_papl dX3_enter_51 hA2 (by omega) (fun M3 hA3 hO3 => ?_)
  refine g_aload_0 dX3_enter_52 ?_
  refine g_get dX3_enter_53 (fX3_24 rfl) hA3.1 rfl ?_
  refine g_aload_0 dX3_enter_56 ?_
  refine g_get dX3_enter_57 (fX3_27 rfl) hA3.1 rfl ?_
  refine g_iconst (v := nI 0) dX3_enter_60 rfl ?_
  refine g_pati dX3_enter_61 hA3 (by omega) (fun M4 hA4 hO4 => ?_)
  refine g_iconst (v := nI 1) dX3_enter_62 rfl ?_
  exact g_ireturn rfl rfl dX3_enter_63 (Nat.le_of_ble_eq_true rfl) (Nat.le_of_ble_eq_true rfl) ⟨rfl, hA4, ((hO1.tr hO2).tr hO3).tr hO4, rfl⟩
theorem q_enter1 {gs : List Value} (hA : PlAt M pb sc pl gr ti (nI k) od bk) (hs : M s = some (.inr (5, gs))) (hd : s < pb ∨ pb + 5 ≤ s) (hk : k < 4) : Runs mX3_enter [.ref pb, .ref s] M z (PlQ (some (.int (nI 1))) M pb (va_up sc (k + 1) (some s)) (upd pl (k + 1) (nI 0)) gr (upd ti (k + 1) (nI 0)) (nI (k + 1)) od bk z) := by
  refine runs_of plX3 rfl (Nat.le_of_ble_eq_true rfl) ?_
  show WP mX3_enter 0 [some (.ref pb), some (.ref s)] [] M z 0 0 _
  refine g_aload_1 dX3_enter_0 ?_
  refine g_ifnull dX3_enter_1 ?_
  refine g_aload_0 dX3_enter_4 ?_
  refine g_get dX3_enter_5 (fX3_27 rfl) hA.1 rfl ?_
  refine g_iconst (v := -1) dX3_enter_8 rfl ?_
  refine g_icmp_lt (tgt := 20) dX3_enter_9 (by decide)  (fun h9 => absurd h9 (nI_nltm (by omega))) (fun _ => ?_)
  refine g_aload_0 dX3_enter_12 ?_
  refine g_get dX3_enter_13 (fX3_27 rfl) hA.1 rfl ?_
  refine g_iconst (v := nI 4) dX3_enter_16 rfl ?_
  refine g_icmp_ltN (tgt := 22) dX3_enter_17 (by decide) (by omega) (by omega) (fun _ => ?_) (fun h17 => absurd h17 (by omega))
  refine g_aload_0 dX3_enter_22 ?_
  refine g_dup dX3_enter_23 rfl ?_
  refine g_get dX3_enter_24 (fX3_27 rfl) hA.1 rfl ?_
  refine g_iconst (v := nI 1) dX3_enter_27 rfl ?_
  refine g_iaddN dX3_enter_28 ?_
  refine g_plv dX3_enter_29 (fX3_27 rfl) hA (fun M1 hA1 hO1 => ?_)
  refine g_aload_0 dX3_enter_32 ?_
  refine g_get dX3_enter_33 (fX3_13 rfl) hA1.1 rfl ?_
  refine g_aload_0 dX3_enter_36 ?_
  refine g_get dX3_enter_37 (fX3_27 rfl) hA1.1 rfl ?_
  refine g_aload_1 dX3_enter_40 ?_
  refine g_pasc dX3_enter_41 hA1 (by omega) ((hO1 _ (by omega)).trans hs) (fun M2 hA2 hO2 => ?_)
  refine g_aload_0 dX3_enter_42 ?_
  refine g_get dX3_enter_43 (fX3_17 rfl) hA2.1 rfl ?_
  refine g_aload_0 dX3_enter_46 ?_
  refine g_get dX3_enter_47 (fX3_27 rfl) hA2.1 rfl ?_
  refine g_iconst (v := nI 0) dX3_enter_50 rfl ?_
  refine g_papl dX3_enter_51 hA2 (by omega) (fun M3 hA3 hO3 => ?_)
  refine g_aload_0 dX3_enter_52 ?_
  refine g_get dX3_enter_53 (fX3_24 rfl) hA3.1 rfl ?_
  refine g_aload_0 dX3_enter_56 ?_
  refine g_get dX3_enter_57 (fX3_27 rfl) hA3.1 rfl ?_
  refine g_iconst (v := nI 0) dX3_enter_60 rfl ?_
  refine g_pati dX3_enter_61 hA3 (by omega) (fun M4 hA4 hO4 => ?_)
  refine g_iconst (v := nI 1) dX3_enter_62 rfl ?_
  exact g_ireturn rfl rfl dX3_enter_63 (Nat.le_of_ble_eq_true rfl) (Nat.le_of_ble_eq_true rfl) ⟨rfl, hA4, ((hO1.tr hO2).tr hO3).tr hO4, rfl⟩
theorem q_enterN (hA : PlAt M pb sc pl gr ti lv od bk) : Runs mX3_enter [.ref pb, .null] M z (gD (some (.int (nI 0))) M z) := by
  refine runs_of plX3 rfl (Nat.le_of_ble_eq_true rfl) ?_
  show WP mX3_enter 0 [some (.ref pb), some (.null)] [] M z 0 0 _
  refine g_aload_1N dX3_enter_0 ?_
  refine g_ifnullN (tgt := 20) dX3_enter_1 (by decide) ?_
  refine g_iconst (v := nI 0) dX3_enter_20 rfl ?_
  exact g_ireturn rfl rfl dX3_enter_21 (Nat.le_of_ble_eq_true rfl) (Nat.le_of_ble_eq_true rfl) (gDi rfl)
theorem q_goTo (hA : PlAt M pb sc pl gr ti (nI k) od bk) (hk : k < 5) : Runs mX3_goTo [.ref pb, .int x] M z (PlQ none M pb sc (upd pl k x) gr ti (nI k) od bk z) := by
  refine runs_of plX3 rfl (Nat.le_of_ble_eq_true rfl) ?_
  show WP mX3_goTo 0 [some (.ref pb), some (.int x)] [] M z 0 0 _
  refine g_aload_0 dX3_goTo_0 ?_
  refine g_get dX3_goTo_1 (fX3_27 rfl) hA.1 rfl ?_
  refine g_if_ltN (tgt := 25) dX3_goTo_4 (by decide) (by omega) ?_
  refine g_aload_0 dX3_goTo_7 ?_
  refine g_get dX3_goTo_8 (fX3_27 rfl) hA.1 rfl ?_
  refine g_iconst (v := nI 5) dX3_goTo_11 rfl ?_
  refine g_icmp_geN (tgt := 25) dX3_goTo_12 (by decide) (by omega) (by omega) (fun h12 => absurd h12 (by omega)) (fun _ => ?_)
  refine g_aload_0 dX3_goTo_15 ?_
  refine g_get dX3_goTo_16 (fX3_17 rfl) hA.1 rfl ?_
  refine g_aload_0 dX3_goTo_19 ?_
  refine g_get dX3_goTo_20 (fX3_27 rfl) hA.1 rfl ?_
  refine g_iload_1 dX3_goTo_23 ?_
  refine g_papl dX3_goTo_24 hA (by omega) (fun M1 hA1 hO1 => ?_)
  exact g_return rfl dX3_goTo_25 (Nat.le_of_ble_eq_true rfl) (Nat.le_of_ble_eq_true rfl) ⟨rfl, hA1, hO1, rfl⟩
theorem q_startGroup (hA : PlAt M pb sc pl gr ti (nI k) od bk) (hk : k < 5) : Runs mX3_startGroup [.ref pb, .int x, .int y] M z (PlQ none M pb sc pl (upd gr k x) (upd ti k y) (nI k) od bk z) := by
  refine runs_of plX3 rfl (Nat.le_of_ble_eq_true rfl) ?_
  show WP mX3_startGroup 0 [some (.ref pb), some (.int x), some (.int y)] [] M z 0 0 _
  refine g_aload_0 dX3_startGroup_0 ?_
  refine g_get dX3_startGroup_1 (fX3_27 rfl) hA.1 rfl ?_
  refine g_if_ltN (tgt := 35) dX3_startGroup_4 (by decide) (by omega) ?_
  refine g_aload_0 dX3_startGroup_7 ?_
  refine g_get dX3_startGroup_8 (fX3_27 rfl) hA.1 rfl ?_
  refine g_iconst (v := nI 5) dX3_startGroup_11 rfl ?_
  refine g_icmp_geN (tgt := 35) dX3_startGroup_12 (by decide) (by omega) (by omega) (fun h12 => absurd h12 (by omega)) (fun _ => ?_)
  refine g_aload_0 dX3_startGroup_15 ?_
  refine g_get dX3_startGroup_16 (fX3_21 rfl) hA.1 rfl ?_
  refine g_aload_0 dX3_startGroup_19 ?_
  refine g_get dX3_startGroup_20 (fX3_27 rfl) hA.1 rfl ?_
  refine g_iload_1 dX3_startGroup_23 ?_
  refine g_pagr dX3_startGroup_24 hA (by omega) (fun M1 hA1 hO1 => ?_)
  refine g_aload_0 dX3_startGroup_25 ?_
  refine g_get dX3_startGroup_26 (fX3_24 rfl) hA1.1 rfl ?_
  refine g_aload_0 dX3_startGroup_29 ?_
  refine g_get dX3_startGroup_30 (fX3_27 rfl) hA1.1 rfl ?_
  refine g_iload_2 dX3_startGroup_33 ?_
  refine g_pati dX3_startGroup_34 hA1 (by omega) (fun M2 hA2 hO2 => ?_)
  exact g_return rfl dX3_startGroup_35 (Nat.le_of_ble_eq_true rfl) (Nat.le_of_ble_eq_true rfl) ⟨rfl, hA2, hO1.tr hO2, rfl⟩
theorem q_endGroup1 (hA : PlAt M pb sc pl gr ti (nI k) od bk) (hk : k < 5) (ht : ti k = nI t) (ht9 : t < 10) (h1 : 1 < t) : Runs mX3_endGroup [.ref pb, .int (nI p)] M z (PlQ none M pb sc (upd pl k (gr k)) gr (upd ti k (nI (t - 1))) (nI k) od bk z) := by
  refine runs_of plX3 rfl (Nat.le_of_ble_eq_true rfl) ?_
  show WP mX3_endGroup 0 [some (.ref pb), some (.int (nI p))] [] M z 0 0 _
  refine g_aload_0 dX3_endGroup_0 ?_
  refine g_get dX3_endGroup_1 (fX3_27 rfl) hA.1 rfl ?_
  refine g_if_ltN (tgt := 64) dX3_endGroup_4 (by decide) (by omega) ?_
  refine g_aload_0 dX3_endGroup_7 ?_
  refine g_get dX3_endGroup_8 (fX3_27 rfl) hA.1 rfl ?_
  refine g_iconst (v := nI 5) dX3_endGroup_11 rfl ?_
  refine g_icmp_geN (tgt := 64) dX3_endGroup_12 (by decide) (by omega) (by omega) (fun h12 => absurd h12 (by omega)) (fun _ => ?_)
  refine g_aload_0 dX3_endGroup_15 ?_
  refine g_get dX3_endGroup_16 (fX3_24 rfl) hA.1 rfl ?_
  refine g_aload_0 dX3_endGroup_19 ?_
  refine g_get dX3_endGroup_20 (fX3_27 rfl) hA.1 rfl ?_
  refine g_dup2 dX3_endGroup_23 rfl rfl ?_
  refine g_ialdN dX3_endGroup_24 hA.2.2.2.2 (by omega) (by decide) ?_
  rw [ht]
  refine g_iconst (v := nI 1) dX3_endGroup_25 rfl ?_
  refine g_isubN dX3_endGroup_26 (by omega) ?_
  refine g_pati dX3_endGroup_27 hA (by omega) (fun M1 hA1 hO1 => ?_)
  refine g_aload_0 dX3_endGroup_28 ?_
  refine g_get dX3_endGroup_29 (fX3_17 rfl) hA1.1 rfl ?_
  refine g_aload_0 dX3_endGroup_32 ?_
  refine g_get dX3_endGroup_33 (fX3_27 rfl) hA1.1 rfl ?_
  refine g_aload_0 dX3_endGroup_36 ?_
  refine g_get dX3_endGroup_37 (fX3_24 rfl) hA1.1 rfl ?_
  refine g_aload_0 dX3_endGroup_40 ?_
  refine g_get dX3_endGroup_41 (fX3_27 rfl) hA1.1 rfl ?_
  refine g_ialdN dX3_endGroup_44 hA1.2.2.2.2 (by omega) (by decide) ?_
  rw [upd_eq]
  refine g_if_leN (tgt := 60) dX3_endGroup_45 (by decide) (by omega) (fun h45 => absurd h45 (by omega)) (fun _ => ?_)
  refine g_aload_0 dX3_endGroup_48 ?_
  refine g_get dX3_endGroup_49 (fX3_21 rfl) hA1.1 rfl ?_
  refine g_aload_0 dX3_endGroup_52 ?_
  refine g_get dX3_endGroup_53 (fX3_27 rfl) hA1.1 rfl ?_
  refine g_ialdN dX3_endGroup_56 hA1.2.2.2.1 (by omega) (by decide) ?_
  refine g_goto (tgt := 63) dX3_endGroup_57 (by decide) ?_
  refine g_papl dX3_endGroup_63 hA1 (by omega) (fun M2 hA2 hO2 => ?_)
  exact g_return rfl dX3_endGroup_64 (Nat.le_of_ble_eq_true rfl) (Nat.le_of_ble_eq_true rfl) ⟨rfl, hA2, hO1.tr hO2, rfl⟩
theorem q_endGroup0 (hA : PlAt M pb sc pl gr ti (nI k) od bk) (hk : k < 5) (ht : ti k = nI t) (ht9 : t < 10) (h1 : t = 1) : Runs mX3_endGroup [.ref pb, .int (nI p)] M z (PlQ none M pb sc (upd pl k (nI (p + 1))) gr (upd ti k (nI (t - 1))) (nI k) od bk z) := by
  refine runs_of plX3 rfl (Nat.le_of_ble_eq_true rfl) ?_
  show WP mX3_endGroup 0 [some (.ref pb), some (.int (nI p))] [] M z 0 0 _
  refine g_aload_0 dX3_endGroup_0 ?_
  refine g_get dX3_endGroup_1 (fX3_27 rfl) hA.1 rfl ?_
  refine g_if_ltN (tgt := 64) dX3_endGroup_4 (by decide) (by omega) ?_
  refine g_aload_0 dX3_endGroup_7 ?_
  refine g_get dX3_endGroup_8 (fX3_27 rfl) hA.1 rfl ?_
  refine g_iconst (v := nI 5) dX3_endGroup_11 rfl ?_
  refine g_icmp_geN (tgt := 64) dX3_endGroup_12 (by decide) (by omega) (by omega) (fun h12 => absurd h12 (by omega)) (fun _ => ?_)
  refine g_aload_0 dX3_endGroup_15 ?_
  refine g_get dX3_endGroup_16 (fX3_24 rfl) hA.1 rfl ?_
  refine g_aload_0 dX3_endGroup_19 ?_
  refine g_get dX3_endGroup_20 (fX3_27 rfl) hA.1 rfl ?_
  refine g_dup2 dX3_endGroup_23 rfl rfl ?_
  refine g_ialdN dX3_endGroup_24 hA.2.2.2.2 (by omega) (by decide) ?_
  rw [ht]
  refine g_iconst (v := nI 1) dX3_endGroup_25 rfl ?_
  refine g_isubN dX3_endGroup_26 (by omega) ?_
  refine g_pati dX3_endGroup_27 hA (by omega) (fun M1 hA1 hO1 => ?_)
  refine g_aload_0 dX3_endGroup_28 ?_
  refine g_get dX3_endGroup_29 (fX3_17 rfl) hA1.1 rfl ?_
  refine g_aload_0 dX3_endGroup_32 ?_
  refine g_get dX3_endGroup_33 (fX3_27 rfl) hA1.1 rfl ?_
  refine g_aload_0 dX3_endGroup_36 ?_
  refine g_get dX3_endGroup_37 (fX3_24 rfl) hA1.1 rfl ?_
  refine g_aload_0 dX3_endGroup_40 ?_
  refine g_get dX3_endGroup_41 (fX3_27 rfl) hA1.1 rfl ?_
  refine g_ialdN dX3_endGroup_44 hA1.2.2.2.2 (by omega) (by decide) ?_
  rw [upd_eq]
  refine g_if_leN (tgt := 60) dX3_endGroup_45 (by decide) (by omega) (fun _ => ?_) (fun h45 => absurd (by omega) h45)
  refine g_iload_1 dX3_endGroup_60 ?_
  refine g_iconst (v := nI 1) dX3_endGroup_61 rfl ?_
  refine g_iaddN dX3_endGroup_62 ?_
  refine g_papl dX3_endGroup_63 hA1 (by omega) (fun M2 hA2 hO2 => ?_)
  exact g_return rfl dX3_endGroup_64 (Nat.le_of_ble_eq_true rfl) (Nat.le_of_ble_eq_true rfl) ⟨rfl, hA2, hO1.tr hO2, rfl⟩
theorem q_signsOf101  : Runs mX3_signsOf [.int (nI 101)] M z (gD (some (.int (nI (oSig 101)))) M z) := by
  refine runs_of plX3 rfl (Nat.le_of_ble_eq_true rfl) ?_
  show WP mX3_signsOf 0 [some (.int (nI 101))] [] M z 0 0 _
  refine g_iload_0 dX3_signsOf_0 ?_
  refine g_tabIn (x := nI 101) (off := 97) (tgt := 98) dX3_signsOf_1 (by decide) (by decide) rfl (by decide) ?_
  refine g_iconst (v := nI 1) dX3_signsOf_98 rfl ?_
  exact g_ireturn rfl rfl dX3_signsOf_99 (Nat.le_of_ble_eq_true rfl) (Nat.le_of_ble_eq_true rfl) (gDi rfl)
theorem q_signsOf104  : Runs mX3_signsOf [.int (nI 104)] M z (gD (some (.int (nI (oSig 104)))) M z) := by
  refine runs_of plX3 rfl (Nat.le_of_ble_eq_true rfl) ?_
  show WP mX3_signsOf 0 [some (.int (nI 104))] [] M z 0 0 _
  refine g_iload_0 dX3_signsOf_0 ?_
  refine g_tabIn (x := nI 104) (off := 99) (tgt := 100) dX3_signsOf_1 (by decide) (by decide) rfl (by decide) ?_
  refine g_iconst (v := nI 2) dX3_signsOf_100 rfl ?_
  exact g_ireturn rfl rfl dX3_signsOf_101 (Nat.le_of_ble_eq_true rfl) (Nat.le_of_ble_eq_true rfl) (gDi rfl)
theorem q_signsOf106  : Runs mX3_signsOf [.int (nI 106)] M z (gD (some (.int (nI (oSig 106)))) M z) := by
  refine runs_of plX3 rfl (Nat.le_of_ble_eq_true rfl) ?_
  show WP mX3_signsOf 0 [some (.int (nI 106))] [] M z 0 0 _
  refine g_iload_0 dX3_signsOf_0 ?_
  refine g_tabIn (x := nI 106) (off := 95) (tgt := 96) dX3_signsOf_1 (by decide) (by decide) rfl (by decide) ?_
  refine g_iconst (v := nI 3) dX3_signsOf_96 rfl ?_
  exact g_ireturn rfl rfl dX3_signsOf_97 (Nat.le_of_ble_eq_true rfl) (Nat.le_of_ble_eq_true rfl) (gDi rfl)
theorem q_signsOf108  : Runs mX3_signsOf [.int (nI 108)] M z (gD (some (.int (nI (oSig 108)))) M z) := by
  refine runs_of plX3 rfl (Nat.le_of_ble_eq_true rfl) ?_
  show WP mX3_signsOf 0 [some (.int (nI 108))] [] M z 0 0 _
  refine g_iload_0 dX3_signsOf_0 ?_
  refine g_tabIn (x := nI 108) (off := 97) (tgt := 98) dX3_signsOf_1 (by decide) (by decide) rfl (by decide) ?_
  refine g_iconst (v := nI 1) dX3_signsOf_98 rfl ?_
  exact g_ireturn rfl rfl dX3_signsOf_99 (Nat.le_of_ble_eq_true rfl) (Nat.le_of_ble_eq_true rfl) (gDi rfl)
theorem q_signsOf109  : Runs mX3_signsOf [.int (nI 109)] M z (gD (some (.int (nI (oSig 109)))) M z) := by
  refine runs_of plX3 rfl (Nat.le_of_ble_eq_true rfl) ?_
  show WP mX3_signsOf 0 [some (.int (nI 109))] [] M z 0 0 _
  refine g_iload_0 dX3_signsOf_0 ?_
  refine g_tabIn (x := nI 109) (off := 99) (tgt := 100) dX3_signsOf_1 (by decide) (by decide) rfl (by decide) ?_
  refine g_iconst (v := nI 2) dX3_signsOf_100 rfl ?_
  exact g_ireturn rfl rfl dX3_signsOf_101 (Nat.le_of_ble_eq_true rfl) (Nat.le_of_ble_eq_true rfl) (gDi rfl)
theorem q_signsOf114  : Runs mX3_signsOf [.int (nI 114)] M z (gD (some (.int (nI (oSig 114)))) M z) := by
  refine runs_of plX3 rfl (Nat.le_of_ble_eq_true rfl) ?_
  show WP mX3_signsOf 0 [some (.int (nI 114))] [] M z 0 0 _
  refine g_iload_0 dX3_signsOf_0 ?_
  refine g_tabIn (x := nI 114) (off := 97) (tgt := 98) dX3_signsOf_1 (by decide) (by decide) rfl (by decide) ?_
  refine g_iconst (v := nI 1) dX3_signsOf_98 rfl ?_
  exact g_ireturn rfl rfl dX3_signsOf_99 (Nat.le_of_ble_eq_true rfl) (Nat.le_of_ble_eq_true rfl) (gDi rfl)
theorem q_signsOf115  : Runs mX3_signsOf [.int (nI 115)] M z (gD (some (.int (nI (oSig 115)))) M z) := by
  refine runs_of plX3 rfl (Nat.le_of_ble_eq_true rfl) ?_
  show WP mX3_signsOf 0 [some (.int (nI 115))] [] M z 0 0 _
  refine g_iload_0 dX3_signsOf_0 ?_
  refine g_tabIn (x := nI 115) (off := 95) (tgt := 96) dX3_signsOf_1 (by decide) (by decide) rfl (by decide) ?_
  refine g_iconst (v := nI 3) dX3_signsOf_96 rfl ?_
  exact g_ireturn rfl rfl dX3_signsOf_97 (Nat.le_of_ble_eq_true rfl) (Nat.le_of_ble_eq_true rfl) (gDi rfl)
theorem q_signsOf120  : Runs mX3_signsOf [.int (nI 120)] M z (gD (some (.int (nI (oSig 120)))) M z) := by
  refine runs_of plX3 rfl (Nat.le_of_ble_eq_true rfl) ?_
  show WP mX3_signsOf 0 [some (.int (nI 120))] [] M z 0 0 _
  refine g_iload_0 dX3_signsOf_0 ?_
  refine g_tabIn (x := nI 120) (off := 97) (tgt := 98) dX3_signsOf_1 (by decide) (by decide) rfl (by decide) ?_
  refine g_iconst (v := nI 1) dX3_signsOf_98 rfl ?_
  exact g_ireturn rfl rfl dX3_signsOf_99 (Nat.le_of_ble_eq_true rfl) (Nat.le_of_ble_eq_true rfl) (gDi rfl)
theorem q_signsOf99  : Runs mX3_signsOf [.int (nI 99)] M z (gD (some (.int (nI (oSig 99)))) M z) := by
  refine runs_of plX3 rfl (Nat.le_of_ble_eq_true rfl) ?_
  show WP mX3_signsOf 0 [some (.int (nI 99))] [] M z 0 0 _
  refine g_iload_0 dX3_signsOf_0 ?_
  refine g_tabOut (x := nI 99) (tgt := 100) dX3_signsOf_1 (Or.inl (by decide)) (by decide) ?_
  refine g_iconst (v := nI 2) dX3_signsOf_100 rfl ?_
  exact g_ireturn rfl rfl dX3_signsOf_101 (Nat.le_of_ble_eq_true rfl) (Nat.le_of_ble_eq_true rfl) (gDi rfl)
theorem q_signsOfD (hc : c < 99) : Runs mX3_signsOf [.int (nI c)] M z (gD (some (.int (nI (oSig c)))) M z) := by
  refine runs_of plX3 rfl (Nat.le_of_ble_eq_true rfl) ?_
  show WP mX3_signsOf 0 [some (.int (nI c))] [] M z 0 0 _
  refine g_iload_0 dX3_signsOf_0 ?_
  refine g_tabOut (x := nI c) (tgt := 100) dX3_signsOf_1 (Or.inl (by rw [nI_toInt (by omega)]; omega)) (by decide) ?_
  refine g_iconst (v := nI 2) dX3_signsOf_100 rfl ?_
  exact g_ireturn rfl rfl dX3_signsOf_101 (Nat.le_of_ble_eq_true rfl) (Nat.le_of_ble_eq_true rfl) (gDi (by unfold oSig; rw [if_neg (by omega), if_neg (by omega)]))
theorem q_motifAt1 {l : Nat} (hF : RugF M a f) (hd : d < 4) (hln : f (463 + d) = nI l) (hl9 : l ≤ 120) (hl : 0 < l) : Runs mX4_motifAt [.ref a, .int (nI d)] M z (gD (some (.ref (a + (12 + 2 * d)))) M z) := by
  obtain ⟨R, ln, sg, hA, hRel⟩ := hF
  have hao := hA.1
  obtain ⟨⟨fm, hm, hfm⟩, hsc⟩ := hA.2.2.2
  have m1 := hRel.2.2.2.2.2.1 d hd
  have hl0 := m1.1
  have hle : ln d = l := (nI_eq (by omega) (by omega)).mp (m1.2.symm.trans hln)
  refine runs_of plX4 rfl (Nat.le_of_ble_eq_true rfl) ?_
  show WP mX4_motifAt 0 [some (.ref a), some (.int (nI d))] [] M z 0 0 _
  refine g_iload_1 dX4_motifAt_0 ?_
  refine g_if_ltN (tgt := 30) dX4_motifAt_1 (by decide) (by omega) ?_
  refine g_iload_1 dX4_motifAt_4 ?_
  refine g_iconst (v := nI 4) dX4_motifAt_5 rfl ?_
  refine g_icmp_geN (tgt := 30) dX4_motifAt_6 (by decide) (by omega) (by omega) (fun h6 => absurd h6 (by omega)) (fun _ => ?_)
  refine g_aload_0 dX4_motifAt_9 ?_
  refine g_get dX4_motifAt_10 (fX4_27 rfl) hao rfl ?_
  refine g_iload_1 dX4_motifAt_13 ?_
  refine g_aaldSN dX4_motifAt_14 hm (by omega) (by decide) (by rw [hfm d hd]) ?_
  refine g_ifnull dX4_motifAt_15 ?_
  refine g_aload_0 dX4_motifAt_18 ?_
  refine g_get dX4_motifAt_19 (fX4_27 rfl) hao rfl ?_
  refine g_iload_1 dX4_motifAt_22 ?_
  refine g_aaldSN dX4_motifAt_23 hm (by omega) (by decide) (by rw [hfm d hd]) ?_
  refine g_get dX4_motifAt_24 (fX4_65 rfl) (hsc d hd).1 rfl ?_
  rw [hle]
  refine g_if_neN (tgt := 32) dX4_motifAt_27 (by decide) (by omega) (fun _ => ?_) (fun h27 => absurd h27 (by omega))
  refine g_aload_0 dX4_motifAt_32 ?_
  refine g_get dX4_motifAt_33 (fX4_27 rfl) hao rfl ?_
  refine g_iload_1 dX4_motifAt_36 ?_
  refine g_aaldSN dX4_motifAt_37 hm (by omega) (by decide) (by rw [hfm d hd]) ?_
  exact g_areturn rfl dX4_motifAt_38 (Nat.le_of_ble_eq_true rfl) (Nat.le_of_ble_eq_true rfl) ⟨rfl, rfl, rfl⟩
theorem q_motifAt0 {l : Nat} (hF : RugF M a f) (hd : d < 4) (hln : f (463 + d) = nI l) (hl9 : l ≤ 120) (hl : l = 0) : Runs mX4_motifAt [.ref a, .int (nI d)] M z (gD (some .null) M z) := by
  obtain ⟨R, ln, sg, hA, hRel⟩ := hF
  have hao := hA.1
  obtain ⟨⟨fm, hm, hfm⟩, hsc⟩ := hA.2.2.2
  have m1 := hRel.2.2.2.2.2.1 d hd
  have hl0 := m1.1
  have hle : ln d = l := (nI_eq (by omega) (by omega)).mp (m1.2.symm.trans hln)
  refine runs_of plX4 rfl (Nat.le_of_ble_eq_true rfl) ?_
  show WP mX4_motifAt 0 [some (.ref a), some (.int (nI d))] [] M z 0 0 _
  refine g_iload_1 dX4_motifAt_0 ?_
  refine g_if_ltN (tgt := 30) dX4_motifAt_1 (by decide) (by omega) ?_
  refine g_iload_1 dX4_motifAt_4 ?_
  refine g_iconst (v := nI 4) dX4_motifAt_5 rfl ?_
  refine g_icmp_geN (tgt := 30) dX4_motifAt_6 (by decide) (by omega) (by omega) (fun h6 => absurd h6 (by omega)) (fun _ => ?_)
  refine g_aload_0 dX4_motifAt_9 ?_
  refine g_get dX4_motifAt_10 (fX4_27 rfl) hao rfl ?_
  refine g_iload_1 dX4_motifAt_13 ?_
  refine g_aaldSN dX4_motifAt_14 hm (by omega) (by decide) (by rw [hfm d hd]) ?_
  refine g_ifnull dX4_motifAt_15 ?_
  refine g_aload_0 dX4_motifAt_18 ?_
  refine g_get dX4_motifAt_19 (fX4_27 rfl) hao rfl ?_
  refine g_iload_1 dX4_motifAt_22 ?_
  refine g_aaldSN dX4_motifAt_23 hm (by omega) (by decide) (by rw [hfm d hd]) ?_
  refine g_get dX4_motifAt_24 (fX4_65 rfl) (hsc d hd).1 rfl ?_
  rw [hle]
  refine g_if_neN (tgt := 32) dX4_motifAt_27 (by decide) (by omega) (fun h27 => absurd hl h27) (fun _ => ?_)
  refine g_null dX4_motifAt_30 ?_
  exact g_areturnN rfl dX4_motifAt_31 (Nat.le_of_ble_eq_true rfl) (Nat.le_of_ble_eq_true rfl) ⟨rfl, rfl, rfl⟩
end P50
