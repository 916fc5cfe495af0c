section P24
variable {M M0 : Hp} {z a b c j : Nat} {f : Row} {x y : Int32} {R : Nat → Row} {ln : Nat → Nat} {sg : Nat → Nat → Nat} {Φ : GR → Hp → Nat → Prop}
section Q
variable {m : GM} {pc k n idx ci N : Nat} {L : List (Option Value)} {rest : List Value} {fs fs' : List Value} {w : Value} {kd fk : Nat} {a0 : vp_A}
theorem g_newQ (d : dc m pc (.new idx) 3) (nw : gNW m idx ci N fs) (hk : k + 1 ≤ gce m) (hn : n + N ≤ gsl m) (h : ∀ M1, M1 z = some (.inr (ci, fs)) → (∀ b, b ≠ z → M1 b = M b) → WP m (pc + 3) L (.ref z :: rest) M1 (z + 1) (k + 1) (n + N) Φ) : WP m pc L rest M z k n Φ :=
  g_new d nw hk hn (h _ (hpu_same _ _ _) (fun b hb => hpu_ne _ _ hb))
theorem g_newarrQ {at_ : ArrayType} (d : dc m pc (.newarray at_) 2) (hw : Cond.arrayClass (newarray.typeOf at_) ∈ gW) (hkd : kd < 4) (hg : gty kd = newarray.typeOf at_) (hN : x.toNatClampNeg = N) (hx0 : ¬ x < 0) (hby : N * componentBytes (newarray.typeOf at_) ≤ 536870912) (ha : ∀ cA : ClassId, vp_cell cA a0 = arrV cA N (fun _ => defaultValue (newarray.typeOf at_))) (hk : k + 1 ≤ gce m) (hn : n + N ≤ gsl m)
    (h : ∀ M1, M1 z = some (.inl (kd, a0)) → (∀ b, b ≠ z → M1 b = M b) → WP m (pc + 2) L (.ref z :: rest) M1 (z + 1) (k + 1) (n + N) Φ) : WP m pc L (.int x :: rest) M z k n Φ :=
  g_newarr d hw hkd hg hN hx0 hby ha hk hn (h _ (hpu_same _ _ _) (fun b hb => hpu_ne _ _ hb))
theorem g_anewQ {Cn : String} (d : dc m pc (.anewarray idx) 3) (hw : Cond.classLink (gy m).cls idx Cn ∈ gW) (hkd : kd = 4 ∨ kd = 5) (hg : gty kd = .object Cn) (hN : x.toNatClampNeg = N) (hx0 : ¬ x < 0) (hby : N * 4 ≤ 536870912) (hk : k + 1 ≤ gce m) (hn : n + N ≤ gsl m)
    (h : ∀ M1, M1 z = some (.inl (kd, N, .inr (.inr (.inr (.inr (fun _ => none)))))) → (∀ b, b ≠ z → M1 b = M b) → WP m (pc + 3) L (.ref z :: rest) M1 (z + 1) (k + 1) (n + N) Φ) : WP m pc L (.int x :: rest) M z k n Φ :=
  g_anew d hw hkd hg hN hx0 hby hk hn (h _ (hpu_same _ _ _) (fun b hb => hpu_ne _ _ hb))
theorem g_putFQ {ty : FieldType} (d : dc m pc (.putfield idx) 3) (lk : gFL m idx ci fk ty true) (hini : (gy m).name = "<init>") (hnn : ∀ host C n d, Cond.fieldLinkNest (gy m).cls idx C n d host ∉ gN) (ho : M a = some (.inr (ci, fs))) (hn : narrow ty w = w) (hf : fits ty w = true) (hlt : fk < fs.length) (h : ∀ M1, M1 a = some (.inr (ci, fs.set fk w)) → (∀ b, b ≠ a → M1 b = M b) → WP m (pc + 3) L rest M1 z k n Φ) : WP m pc L (w :: .ref a :: rest) M z k n Φ :=
  g_putF d lk hini hnn ho hn hf hlt rfl (h _ (hpu_same _ _ _) (fun b hb => hpu_ne _ _ hb))
theorem g_putQ {ty : FieldType} (d : dc m pc (.putfield idx) 3) (lk : gFL m idx ci fk ty false) (ho : M a = some (.inr (ci, fs))) (hn : narrow ty w = w) (hf : fits ty w = true) (hlt : fk < fs.length) (h : ∀ M1, M1 a = some (.inr (ci, fs.set fk w)) → (∀ b, b ≠ a → M1 b = M b) → WP m (pc + 3) L rest M1 z k n Φ) : WP m pc L (w :: .ref a :: rest) M z k n Φ :=
  g_put d lk ho hn hf hlt rfl (h _ (hpu_same _ _ _) (fun b hb => hpu_ne _ _ hb))
theorem g_iastQ (d : dc m pc .iastore 1) (ho : M a = some (aI N f)) (hj : j < N) (hN : N < 2 ^ 31) (h : ∀ M1, M1 a = some (aI N (upd f j y)) → (∀ b, b ≠ a → M1 b = M b) → WP m (pc + 1) L rest M1 z k n Φ) : WP m pc L (.int y :: .int (nI j) :: .ref a :: rest) M z k n Φ :=
  g_iastN d ho hj hN (h _ (hpu_same _ _ _) (fun b hb => hpu_ne _ _ hb))
theorem g_aastQ {g : Nat → Option Nat} {cj : Nat} {gs : List Value} {r : vw_C} (d : dc m pc .aastore 1) (hkd : kd < 6) (ho : M a = some (.inl (kd, N, .inr (.inr (.inr (.inr g)))))) (hty : gty kd = .object r.1) (hb : M b = some (.inr (cj, gs))) (hcj : vwCl[cj]? = some r) (hj : j < N) (hN : N < 2 ^ 31) (h : ∀ M1, M1 a = some (.inl (kd, N, .inr (.inr (.inr (.inr (va_up g j (some b))))))) → (∀ b, b ≠ a → M1 b = M b) → WP m (pc + 1) L rest M1 z k n Φ) : WP m pc L (.ref b :: .int (nI j) :: .ref a :: rest) M z k n Φ :=
  g_aast0 d hkd ho hty hb hcj (nI_in hj hN) (by rw [nIc (by omega)]; exact h _ (hpu_same _ _ _) (fun b hb => hpu_ne _ _ hb))
end Q
def mxc (i : Nat) (v : Int32) : Row := fun j => if j < i then v else 0
theorem mxc_0 {v : Int32} : mxc 0 v = fun _ => 0 := by funext j; simp [mxc]
theorem mxc_lt {i j : Nat} {v : Int32} (h : j < i) : mxc i v j = v := if_pos h
theorem upd_mxc {i : Nat} {v : Int32} : upd (mxc i v) i v = mxc (i + 1) v := by
  funext j
  simp only [upd, mxc]
  by_cases h1 : j = i
  · rw [if_pos h1, if_pos (by omega)]
  · rw [if_neg h1]
    by_cases h2 : j < i
    · rw [if_pos h2, if_pos (by omega)]
    · rw [if_neg h2, if_neg (by omega)]
theorem c_scriptInit (h0 : M a = some (.inr (5, [.null, .int 0]))) : Runs mX5_init [.ref a] M (a + 1) (fun r M' z' => r = .inl none ∧ ScriptAt M' a 0 (fun _ => 0) ∧ Out M M' a 2 ∧ z' = a + 2) := by
  refine runs_of plX5 rfl (Nat.le_of_ble_eq_true rfl) ?_
  show WP mX5_init 0 [some (.ref a)] [] M (a + 1) 0 0 _
  refine g_aload_0 dX5_init_0 ?_
  refine g_objinit dX5_init_1 (oX5_3 rfl) gOI gOC (Nat.le_of_ble_eq_true rfl) (Nat.le_of_ble_eq_true rfl) ?_
  refine g_aload_0 dX5_init_4 ?_
  refine g_bipush (v := nI 120) dX5_init_5 rfl ?_
  refine g_newarrQ (kd := 1) (a0 := (120, .inl (fun _ => 0))) dX5_init_7 gA_char (by decide) rfl (nIc (by decide)) (nI_pos (by decide)) (by decide) (fun _ => rfl) (Nat.le_of_ble_eq_true rfl) (Nat.le_of_ble_eq_true rfl) (fun M1 hN1 n1 => ?_)
  have h0 := (n1 _ (by omega)).trans h0
  refine g_putFQ dX5_init_9 (fX5_9 rfl) rfl (gNN_of (by decide +kernel)) h0 rfl rfl (Nat.le_of_ble_eq_true rfl) (fun M2 h0 n2 => ?_)
  have hN1 := (n2 _ (by omega)).trans hN1
  exact g_return rfl dX5_init_12 (Nat.le_of_ble_eq_true rfl) (Nat.le_of_ble_eq_true rfl) ⟨rfl, ⟨h0, hN1⟩, fun b hb => (n2 b (by omega)).trans (n1 b (by omega)), rfl⟩
theorem c_canvasInit_l : ∀ d i (M : Hp), i + d = 144 → M a = some (.inr (1, [.ref (a + 1), .ref (a + 2), .ref (a + 3)])) → M (a + 1) = some (aI 144 (mxc i (-1))) → M (a + 2) = some (aI 144 (mxc i (-1))) → M (a + 3) = some (aI 144 (fun _ => 0)) → Out M0 M a 4 → (∀ M', M' a = some (.inr (1, [.ref (a + 1), .ref (a + 2), .ref (a + 3)])) → M' (a + 1) = some (aI 144 (mxc 144 (-1))) → M' (a + 2) = some (aI 144 (mxc 144 (-1))) → M' (a + 3) = some (aI 144 (fun _ => 0)) → Out M0 M' a 4 → WP mX1_init 60 [some (.ref a), some (.int (nI (144)))] [] M' (a + 4) 3 432 Φ) → WP mX1_init 33 [some (.ref a), some (.int (nI (i)))] [] M (a + 4) 3 432 Φ := by
  intro d
  induction d with
  | zero =>
    intro i M hi hD0 hD1 hD2 hD3 hO hk
    obtain rfl : i = 144 := by omega
    refine g_iload_1 dX1_init_33 ?_
    refine g_sipush (v := nI 144) dX1_init_34 rfl ?_
    refine g_icmp_geN (tgt := 60) dX1_init_37 (by decide) (by omega) (by omega) (fun _ => ?_) (fun h37 => absurd h37 (by omega))
    exact hk _ hD0 hD1 hD2 hD3 hO
  | succ d ih =>
    intro i M hi hD0 hD1 hD2 hD3 hO hk
    refine g_iload_1 dX1_init_33 ?_
    refine g_sipush (v := nI 144) dX1_init_34 rfl ?_
    refine g_icmp_geN (tgt := 60) dX1_init_37 (by decide) (by omega) (by omega) (fun h37 => absurd h37 (by omega)) (fun _ => ?_)
    refine g_aload_0 dX1_init_40 ?_
    refine g_get dX1_init_41 (fX1_9 rfl) hD0 rfl ?_
    refine g_iload_1 dX1_init_44 ?_
    refine g_iconst (v := -1) dX1_init_45 rfl ?_
    refine g_iastQ dX1_init_46 hD1 (by omega) (by decide) (fun M1 hD1 n1 => ?_)
    rw [upd_mxc] at hD1
    have hD0 := (n1 _ (by omega)).trans hD0
    have hD2 := (n1 _ (by omega)).trans hD2
    have hD3 := (n1 _ (by omega)).trans hD3
    have hO := hO.tr (fun b hb => n1 b (by omega) : Out _ _ a 4)
    refine g_aload_0 dX1_init_47 ?_
    refine g_get dX1_init_48 (fX1_15 rfl) hD0 rfl ?_
    refine g_iload_1 dX1_init_51 ?_
    refine g_iconst (v := -1) dX1_init_52 rfl ?_
    refine g_iastQ dX1_init_53 hD2 (by omega) (by decide) (fun M2 hD2 n2 => ?_)
    rw [upd_mxc] at hD2
    have hD0 := (n2 _ (by omega)).trans hD0
    have hD1 := (n2 _ (by omega)).trans hD1
    have hD3 := (n2 _ (by omega)).trans hD3
    have hO := hO.tr (fun b hb => n2 b (by omega) : Out _ _ a 4)
    refine g_iincN_1 (q := 1) rfl dX1_init_54 rfl ?_
    refine g_goto (tgt := 33) dX1_init_57 (by decide) ?_
    exact ih (i + 1) _ (by omega) hD0 hD1 hD2 hD3 hO hk
theorem c_canvasInit (h0 : M a = some (.inr (1, [.null, .null, .null]))) : Runs mX1_init [.ref a] M (a + 1) (fun r M' z' => r = .inl none ∧ CanvasAt M' a (mxc 144 (-1)) (mxc 144 (-1)) (fun _ => 0) ∧ Out M M' a 4 ∧ z' = a + 4) := by
  refine runs_of plX1 rfl (Nat.le_of_ble_eq_true rfl) ?_
  show WP mX1_init 0 [some (.ref a), none] [] M (a + 1) 0 0 _
  refine g_aload_0 dX1_init_0 ?_
  refine g_objinit dX1_init_1 (oX1_3 rfl) gOI gOC (Nat.le_of_ble_eq_true rfl) (Nat.le_of_ble_eq_true rfl) ?_
  refine g_aload_0 dX1_init_4 ?_
  refine g_sipush (v := nI 144) dX1_init_5 rfl ?_
  refine g_newarrQ (kd := 0) (a0 := (144, .inl (fun _ => 0))) dX1_init_8 gA_int (by decide) rfl (nIc (by decide)) (nI_pos (by decide)) (by decide) (fun _ => rfl) (Nat.le_of_ble_eq_true rfl) (Nat.le_of_ble_eq_true rfl) (fun M1 hN1 n1 => ?_)
  have h0 := (n1 _ (by omega)).trans h0
  refine g_putFQ dX1_init_10 (fX1_9 rfl) rfl (gNN_of (by decide +kernel)) h0 rfl rfl (Nat.le_of_ble_eq_true rfl) (fun M2 h0 n2 => ?_)
  have hN1 := (n2 _ (by omega)).trans hN1
  refine g_aload_0 dX1_init_13 ?_
  refine g_sipush (v := nI 144) dX1_init_14 rfl ?_
  refine g_newarrQ (kd := 0) (a0 := (144, .inl (fun _ => 0))) dX1_init_17 gA_int (by decide) rfl (nIc (by decide)) (nI_pos (by decide)) (by decide) (fun _ => rfl) (Nat.le_of_ble_eq_true rfl) (Nat.le_of_ble_eq_true rfl) (fun M3 hN3 n3 => ?_)
  have h0 := (n3 _ (by omega)).trans h0
  have hN1 := (n3 _ (by omega)).trans hN1
  refine g_putFQ dX1_init_19 (fX1_15 rfl) rfl (gNN_of (by decide +kernel)) h0 rfl rfl (Nat.le_of_ble_eq_true rfl) (fun M4 h0 n4 => ?_)
  have hN1 := (n4 _ (by omega)).trans hN1
  have hN3 := (n4 _ (by omega)).trans hN3
  refine g_aload_0 dX1_init_22 ?_
  refine g_sipush (v := nI 144) dX1_init_23 rfl ?_
  refine g_newarrQ (kd := 0) (a0 := (144, .inl (fun _ => 0))) dX1_init_26 gA_int (by decide) rfl (nIc (by decide)) (nI_pos (by decide)) (by decide) (fun _ => rfl) (Nat.le_of_ble_eq_true rfl) (Nat.le_of_ble_eq_true rfl) (fun M5 hN5 n5 => ?_)
  have h0 := (n5 _ (by omega)).trans h0
  have hN1 := (n5 _ (by omega)).trans hN1
  have hN3 := (n5 _ (by omega)).trans hN3
  refine g_putFQ dX1_init_28 (fX1_18 rfl) rfl (gNN_of (by decide +kernel)) h0 rfl rfl (Nat.le_of_ble_eq_true rfl) (fun M6 h0 n6 => ?_)
  have hN1 := (n6 _ (by omega)).trans hN1
  have hN3 := (n6 _ (by omega)).trans hN3
  have hN5 := (n6 _ (by omega)).trans hN5
  refine g_iconst (v := nI 0) dX1_init_31 rfl ?_
  refine g_istore_1 rfl dX1_init_32 ?_
  have hO : Out M _ a 4 := fun b hb => (n6 b (by omega)).trans ((n5 b (by omega)).trans ((n4 b (by omega)).trans ((n3 b (by omega)).trans ((n2 b (by omega)).trans (n1 b (by omega))))))
  rw [show (fun _ : Nat => (0 : Int32)) = mxc 0 (-1) from mxc_0.symm] at hN1 hN3
  refine c_canvasInit_l (M0 := M) 144 0 _ rfl h0 hN1 hN3 hN5 hO (fun M2 g0 g1 g2 g3 g4 => ?_)
  exact g_return rfl dX1_init_60 (Nat.le_of_ble_eq_true rfl) (Nat.le_of_ble_eq_true rfl) ⟨rfl, ⟨g0, g1, g2, g3⟩, g4, rfl⟩
theorem c_yarnInit_l : ∀ d i (M : Hp), i + d = 5 → M a = some (.inr (6, [.ref (a + 1), .ref (a + 2), .ref (a + 3), .ref (a + 4), .ref (a + 5)])) → M (a + 1) = some (aI 5 (mxc i (nI 8000))) → M (a + 2) = some (aI 5 (mxc i (nI 8000))) → M (a + 3) = some (aI 5 (fun _ => 0)) → M (a + 4) = some (aI 5 (fun _ => 0)) → M (a + 5) = some (aI 5 (fun _ => 0)) → Out M0 M a 6 → (∀ M', M' a = some (.inr (6, [.ref (a + 1), .ref (a + 2), .ref (a + 3), .ref (a + 4), .ref (a + 5)])) → M' (a + 1) = some (aI 5 (mxc 5 (nI 8000))) → M' (a + 2) = some (aI 5 (mxc 5 (nI 8000))) → M' (a + 3) = some (aI 5 (fun _ => 0)) → M' (a + 4) = some (aI 5 (fun _ => 0)) → M' (a + 5) = some (aI 5 (fun _ => 0)) → Out M0 M' a 6 → WP mX6_init 70 [some (.ref a), some (.int (nI (5)))] [] M' (a + 6) 5 25 Φ) → WP mX6_init 41 [some (.ref a), some (.int (nI (i)))] [] M (a + 6) 5 25 Φ := by
  intro d
  induction d with
  | zero =>
    intro i M hi hD0 hD1 hD2 hD3 hD4 hD5 hO hk
    obtain rfl : i = 5 := by omega
    refine g_iload_1 dX6_init_41 ?_
    refine g_iconst (v := nI 5) dX6_init_42 rfl ?_
    refine g_icmp_geN (tgt := 70) dX6_init_43 (by decide) (by omega) (by omega) (fun _ => ?_) (fun h43 => absurd h43 (by omega))
    exact hk _ hD0 hD1 hD2 hD3 hD4 hD5 hO
  | succ d ih =>
    intro i M hi hD0 hD1 hD2 hD3 hD4 hD5 hO hk
    refine g_iload_1 dX6_init_41 ?_
    refine g_iconst (v := nI 5) dX6_init_42 rfl ?_
    refine g_icmp_geN (tgt := 70) dX6_init_43 (by decide) (by omega) (by omega) (fun h43 => absurd h43 (by omega)) (fun _ => ?_)
    refine g_aload_0 dX6_init_46 ?_
    refine g_get dX6_init_47 (fX6_9 rfl) hD0 rfl ?_
    refine g_iload_1 dX6_init_50 ?_
    refine g_sipush (v := nI 8000) dX6_init_51 rfl ?_
    refine g_iastQ dX6_init_54 hD1 (by omega) (by decide) (fun M1 hD1 n1 => ?_)
    rw [upd_mxc] at hD1
    have hD0 := (n1 _ (by omega)).trans hD0
    have hD2 := (n1 _ (by omega)).trans hD2
    have hD3 := (n1 _ (by omega)).trans hD3
    have hD4 := (n1 _ (by omega)).trans hD4
    have hD5 := (n1 _ (by omega)).trans hD5
    have hO := hO.tr (fun b hb => n1 b (by omega) : Out _ _ a 6)
    refine g_aload_0 dX6_init_55 ?_
    refine g_get dX6_init_56 (fX6_15 rfl) hD0 rfl ?_
    refine g_iload_1 dX6_init_59 ?_
    refine g_sipush (v := nI 8000) dX6_init_60 rfl ?_
    refine g_iastQ dX6_init_63 hD2 (by omega) (by decide) (fun M2 hD2 n2 => ?_)
    rw [upd_mxc] at hD2
    have hD0 := (n2 _ (by omega)).trans hD0
    have hD1 := (n2 _ (by omega)).trans hD1
    have hD3 := (n2 _ (by omega)).trans hD3
    have hD4 := (n2 _ (by omega)).trans hD4
    have hD5 := (n2 _ (by omega)).trans hD5
    have hO := hO.tr (fun b hb => n2 b (by omega) : Out _ _ a 6)
    refine g_iincN_1 (q := 1) rfl dX6_init_64 rfl ?_
    refine g_goto (tgt := 41) dX6_init_67 (by decide) ?_
    exact ih (i + 1) _ (by omega) hD0 hD1 hD2 hD3 hD4 hD5 hO hk
theorem c_yarnInit (h0 : M a = some (.inr (6, [.null, .null, .null, .null, .null]))) : Runs mX6_init [.ref a] M (a + 1) (fun r M' z' => r = .inl none ∧ YarnAt M' a (mxc 5 (nI 8000)) (mxc 5 (nI 8000)) (fun _ => 0) (fun _ => 0) (fun _ => 0) ∧ Out M M' a 6 ∧ z' = a + 6) := by
  refine runs_of plX6 rfl (Nat.le_of_ble_eq_true rfl) ?_
  show WP mX6_init 0 [some (.ref a), none] [] M (a + 1) 0 0 _
  refine g_aload_0 dX6_init_0 ?_
  refine g_objinit dX6_init_1 (oX6_3 rfl) gOI gOC (Nat.le_of_ble_eq_true rfl) (Nat.le_of_ble_eq_true rfl) ?_
  refine g_aload_0 dX6_init_4 ?_
  refine g_iconst (v := nI 5) dX6_init_5 rfl ?_
  refine g_newarrQ (kd := 0) (a0 := (5, .inl (fun _ => 0))) dX6_init_6 gA_int (by decide) rfl (nIc (by decide)) (nI_pos (by decide)) (by decide) (fun _ => rfl) (Nat.le_of_ble_eq_true rfl) (Nat.le_of_ble_eq_true rfl) (fun M1 hN1 n1 => ?_)
  have h0 := (n1 _ (by omega)).trans h0
  refine g_putFQ dX6_init_8 (fX6_9 rfl) rfl (gNN_of (by decide +kernel)) h0 rfl rfl (Nat.le_of_ble_eq_true rfl) (fun M2 h0 n2 => ?_)
  have hN1 := (n2 _ (by omega)).trans hN1
  refine g_aload_0 dX6_init_11 ?_
  refine g_iconst (v := nI 5) dX6_init_12 rfl ?_
  refine g_newarrQ (kd := 0) (a0 := (5, .inl (fun _ => 0))) dX6_init_13 gA_int (by decide) rfl (nIc (by decide)) (nI_pos (by decide)) (by decide) (fun _ => rfl) (Nat.le_of_ble_eq_true rfl) (Nat.le_of_ble_eq_true rfl) (fun M3 hN3 n3 => ?_)
  have h0 := (n3 _ (by omega)).trans h0
  have hN1 := (n3 _ (by omega)).trans hN1
  refine g_putFQ dX6_init_15 (fX6_15 rfl) rfl (gNN_of (by decide +kernel)) h0 rfl rfl (Nat.le_of_ble_eq_true rfl) (fun M4 h0 n4 => ?_)
  have hN1 := (n4 _ (by omega)).trans hN1
  have hN3 := (n4 _ (by omega)).trans hN3
  refine g_aload_0 dX6_init_18 ?_
  refine g_iconst (v := nI 5) dX6_init_19 rfl ?_
  refine g_newarrQ (kd := 0) (a0 := (5, .inl (fun _ => 0))) dX6_init_20 gA_int (by decide) rfl (nIc (by decide)) (nI_pos (by decide)) (by decide) (fun _ => rfl) (Nat.le_of_ble_eq_true rfl) (Nat.le_of_ble_eq_true rfl) (fun M5 hN5 n5 => ?_)
  have h0 := (n5 _ (by omega)).trans h0
  have hN1 := (n5 _ (by omega)).trans hN1
  have hN3 := (n5 _ (by omega)).trans hN3
  refine g_putFQ dX6_init_22 (fX6_18 rfl) rfl (gNN_of (by decide +kernel)) h0 rfl rfl (Nat.le_of_ble_eq_true rfl) (fun M6 h0 n6 => ?_)
  have hN1 := (n6 _ (by omega)).trans hN1
  have hN3 := (n6 _ (by omega)).trans hN3
  have hN5 := (n6 _ (by omega)).trans hN5
  refine g_aload_0 dX6_init_25 ?_
  refine g_iconst (v := nI 5) dX6_init_26 rfl ?_
  refine g_newarrQ (kd := 0) (a0 := (5, .inl (fun _ => 0))) dX6_init_27 gA_int (by decide) rfl (nIc (by decide)) (nI_pos (by decide)) (by decide) (fun _ => rfl) (Nat.le_of_ble_eq_true rfl) (Nat.le_of_ble_eq_true rfl) (fun M7 hN7 n7 => ?_)
  have h0 := (n7 _ (by omega)).trans h0
  have hN1 := (n7 _ (by omega)).trans hN1
  have hN3 := (n7 _ (by omega)).trans hN3
  have hN5 := (n7 _ (by omega)).trans hN5
  refine g_putFQ dX6_init_29 (fX6_21 rfl) rfl (gNN_of (by decide +kernel)) h0 rfl rfl (Nat.le_of_ble_eq_true rfl) (fun M8 h0 n8 => ?_)
  have hN1 := (n8 _ (by omega)).trans hN1
  have hN3 := (n8 _ (by omega)).trans hN3
  have hN5 := (n8 _ (by omega)).trans hN5
  have hN7 := (n8 _ (by omega)).trans hN7
  refine g_aload_0 dX6_init_32 ?_
  refine g_iconst (v := nI 5) dX6_init_33 rfl ?_
  refine g_newarrQ (kd := 0) (a0 := (5, .inl (fun _ => 0))) dX6_init_34 gA_int (by decide) rfl (nIc (by decide)) (nI_pos (by decide)) (by decide) (fun _ => rfl) (Nat.le_of_ble_eq_true rfl) (Nat.le_of_ble_eq_true rfl) (fun M9 hN9 n9 => ?_)
  have h0 := (n9 _ (by omega)).trans h0
  have hN1 := (n9 _ (by omega)).trans hN1
  have hN3 := (n9 _ (by omega)).trans hN3
  have hN5 := (n9 _ (by omega)).trans hN5
  have hN7 := (n9 _ (by omega)).trans hN7
  refine g_putFQ dX6_init_36 (fX6_24 rfl) rfl (gNN_of (by decide +kernel)) h0 rfl rfl (Nat.le_of_ble_eq_true rfl) (fun M10 h0 n10 => ?_)
  have hN1 := (n10 _ (by omega)).trans hN1
  have hN3 := (n10 _ (by omega)).trans hN3
  have hN5 := (n10 _ (by omega)).trans hN5
  have hN7 := (n10 _ (by omega)).trans hN7
  have hN9 := (n10 _ (by omega)).trans hN9
  refine g_iconst (v := nI 0) dX6_init_39 rfl ?_
  refine g_istore_1 rfl dX6_init_40 ?_
  have hO : Out M _ a 6 := fun b hb => (((((((((n10 b (by omega)).trans (n9 b (by omega))).trans (n8 b (by omega))).trans (n7 b (by omega))).trans (n6 b (by omega))).trans (n5 b (by omega))).trans (n4 b (by omega))).trans (n3 b (by omega))).trans (n2 b (by omega))).trans (n1 b (by omega))
  rw [show (fun _ : Nat => (0 : Int32)) = mxc 0 (nI 8000) from mxc_0.symm] at hN1 hN3
  refine c_yarnInit_l (M0 := M) 5 0 _ rfl h0 hN1 hN3 hN5 hN7 hN9 hO (fun M2 g0 g1 g2 g3 g4 g5 g6 => ?_)
  exact g_return rfl dX6_init_70 (Nat.le_of_ble_eq_true rfl) (Nat.le_of_ble_eq_true rfl) ⟨rfl, ⟨g0, g1, g2, g3, g4, g5⟩, g6, rfl⟩
theorem q_rugInit_step {i k n : Nat} {fm : Nat → Option Nat} (h0 : M a = some (.inr (4, [.ref (a + 1), .ref (a + 5), .ref (a + 11), .int 0, .int 0, .int (-1), .int (nI 4), .int 0, .int 0]))) (hm : M (a + 11) = some (aS 4 fm)) (hfm : ∀ j, j < i → fm j = some (a + (12 + 2 * j))) (hs : ∀ j, j < i → ScriptAt M (a + (12 + 2 * j)) 0 (fun _ => 0)) (hO : Out M0 M (a + 11) 9) (hi : i < 4) (h1 : k + 2 ≤ 19) (h2 : n + 122 ≤ 957) (hk : ∀ (M' : Hp) (fm' : Nat → Option Nat), M' a = some (.inr (4, [.ref (a + 1), .ref (a + 5), .ref (a + 11), .int 0, .int 0, .int (-1), .int (nI 4), .int 0, .int 0])) → M' (a + 11) = some (aS 4 fm') → (∀ j, j < i + 1 → fm' j = some (a + (12 + 2 * j))) → (∀ j, j < i + 1 → ScriptAt M' (a + (12 + 2 * j)) 0 (fun _ => 0)) → Out M0 M' (a + 11) 9 → WP mX4_init 46 [some (.ref a), some (.int (nI (i + 1)))] [] M' (a + (12 + 2 * i) + 2) (k + 2) (n + 122) Φ)  : WP mX4_init 46 [some (.ref a), some (.int (nI i))] [] M (a + (12 + 2 * i)) k n Φ := by
  refine g_iload_1 dX4_init_46 ?_
  refine g_iconst (v := nI 4) dX4_init_47 rfl ?_
  refine g_icmp_geN (tgt := 70) dX4_init_48 (by decide) (by omega) (by omega) (fun h48 => absurd h48 (by omega)) (fun _ => ?_)
  refine g_aload_0 dX4_init_51 ?_
  refine g_get dX4_init_52 (fX4_27 rfl) h0 rfl ?_
  refine g_iload_1 dX4_init_55 ?_
  refine g_newQ dX4_init_56 (nX4_25 rfl) (by show k + 1 ≤ 19; omega) (by show n + 2 ≤ 957; omega) (fun M1 hN1 n1 => ?_)
  have h0 := (n1 _ (by omega)).trans h0
  have hm := (n1 _ (by omega)).trans hm
  refine g_dup dX4_init_59 rfl ?_
  refine g_i0 dX4_init_60 (iX4_38 rfl) rfl (Nat.le_of_ble_eq_true rfl) (by show k + 1 + 1 ≤ 19; omega) (by show n + 2 + 120 ≤ 957; omega) (c_scriptInit hN1) (fun r M2 z2 hq => ?_) (fun E M2 z2 hq => by obtain ⟨hq, -⟩ := hq; cases hq)
  obtain ⟨hr, hS, hO2, rfl⟩ := hq
  cases hr
  have h0 := (hO2 _ (by omega)).trans h0
  have hm := (hO2 _ (by omega)).trans hm
  refine g_aastQ (kd := 5) dX4_init_63 (by decide) hm rfl hS.1 rfl (by omega) (by decide) (fun M3 hm n3 => ?_)
  have h0 := (n3 _ (by omega)).trans h0
  rw [show gce mX5_init = 1 from rfl, show gsl mX5_init = 120 from rfl]
  refine g_iincN_1 (q := 1) rfl dX4_init_64 rfl ?_
  refine g_goto (tgt := 46) dX4_init_67 (by decide) ?_
  refine hk _ _ h0 hm (fun j hj => ?_) (fun j hj => ?_) (hO.tr (fun b hb => (n3 b (by omega)).trans ((hO2 b (by omega)).trans (n1 b (by omega)))))
  · by_cases hji : j = i
    · subst hji; simp [va_up]
    · simp only [va_up]; rw [if_neg hji]; exact hfm j (by omega)
  · by_cases hji : j = i
    · subst hji; exact hS.keep (fun c c1 c2 => n3 c (by omega))
    · exact (hs j (by omega)).keep (fun c c1 c2 => (n3 c (by omega)).trans ((hO2 c (by omega)).trans (n1 c (by omega))))
def f00 : Row := fun k => if 432 ≤ k ∧ k < 457 ∧ (k - 432) % 5 < 2 then nI 8000 else if k = 460 then nI 4 else nI 0
theorem f00_0 {k : Nat} (h : k < 432 ∨ 457 ≤ k) (h4 : k ≠ 460) : f00 k = nI 0 := by unfold f00; rw [if_neg (by omega), if_neg h4]
theorem f00_c {c : Nat} (hc : c < 5) : f00 (432 + 5 * c) = nI 8000 ∧ f00 (433 + 5 * c) = nI 8000 ∧ f00 (434 + 5 * c) = nI 0 ∧ f00 (435 + 5 * c) = nI 0 ∧ f00 (436 + 5 * c) = nI 0 := by
  unfold f00
  refine ⟨if_pos (by omega), if_pos (by omega), ?_, ?_, ?_⟩ <;> rw [if_neg (by omega), if_neg (by omega)]
theorem f00_460 : f00 460 = nI 4 := by unfold f00; rw [if_neg (by omega), if_pos rfl]
def R00 : Nat → Row := mkR (mxc 144 (-1)) (mxc 144 (-1)) (fun _ => 0) (mxc 5 (nI 8000)) (mxc 5 (nI 8000)) (fun _ => 0) (fun _ => 0) (fun _ => 0) (fun i => if i = 2 then -1 else if i = 3 then nI 4 else 0)
theorem Rel.zero : Rel R00 (fun _ => 0) (fun _ _ => 0) f00 := by
  refine ⟨fun i hi => ?_, fun i hi => ?_, fun i hi => ?_, ⟨fun c hc => ?_, fun c hc => ?_, fun c hc => ?_, fun c hc => ?_, fun c hc => ?_⟩, ⟨?_, ?_, ?_, ?_, ?_, ?_⟩, fun m hm => ⟨Nat.zero_le _, ?_⟩, fun m hm i hi => absurd hi (Nat.not_lt_zero _), fun m i => (show 0 < 256 by decide)⟩
  · rw [f00_0 (by omega) (by omega), show R00 0 i = -1 from mxc_lt hi]; decide
  · rw [f00_0 (by omega) (by omega), show R00 1 i = -1 from mxc_lt hi]; decide
  · rw [f00_0 (by omega) (by omega), if_neg (by decide)]; exact nI_0.symm
  · rw [(f00_c hc).1]; exact mxc_lt hc
  · rw [(f00_c hc).2.1]; exact mxc_lt hc
  · rw [(f00_c hc).2.2.1]; exact nI_0.symm
  · rw [(f00_c hc).2.2.2.1]; exact nI_0.symm
  · rw [(f00_c hc).2.2.2.2]; exact nI_0.symm
  · rw [f00_0 (by omega) (by omega)]; decide
  · rw [f00_0 (by omega) (by omega)]; decide
  · rw [f00_0 (by omega) (by omega)]; decide
  · rw [f00_460]; rfl
  · rw [f00_0 (by omega) (by omega)]; decide
  · rw [f00_0 (by omega) (by omega)]; decide
  · rw [f00_0 (by omega) (by omega)]
theorem Rng.zero : Rng f00 := by
  have z : ∀ {k b : Nat}, (k < 432 ∨ 457 ≤ k) → k ≠ 460 → 0 < b → b ≤ 2 ^ 31 → Bd f00 k b := fun h h4 h0 hb => Bd.of (f00_0 h h4) h0 hb
  refine ⟨fun i hi => z (by omega) (by omega) (by decide) (by decide), fun i hi => z (by omega) (by omega) (by decide) (by decide), fun i hi hl => ?_, fun c hc => Bd.of (f00_c hc).1 (by decide) (by decide), ⟨z (by omega) (by omega) (by decide) (by decide), z (by omega) (by omega) (by decide) (by decide), z (by omega) (by omega) (by decide) (by decide), Bd.of f00_460 (by decide) (by decide), ?_⟩, fun m hm => z (by omega) (by omega) (by decide) (by decide)⟩
  · rw [f00_0 (by omega) (by omega)] at hl
    exact absurd hl (by decide)
  · rw [gv_of f00_460 (by decide)]; decide
theorem q_rugInit_end {k n : Nat} {fm : Nat → Option Nat} (h0 : M a = some (.inr (4, [.ref (a + 1), .ref (a + 5), .ref (a + 11), .int 0, .int 0, .int (-1), .int (nI 4), .int 0, .int 0]))) (hC : CanvasAt M (a + 1) (mxc 144 (-1)) (mxc 144 (-1)) (fun _ => 0)) (hY : YarnAt M (a + 5) (mxc 5 (nI 8000)) (mxc 5 (nI 8000)) (fun _ => 0) (fun _ => 0) (fun _ => 0)) (hm : M (a + 11) = some (aS 4 fm)) (hfm : ∀ j, j < 4 → fm j = some (a + (12 + 2 * j))) (hs : ∀ j, j < 4 → ScriptAt M (a + (12 + 2 * j)) 0 (fun _ => 0)) (hO : Out M0 M a 20) (hk : k ≤ gce mX4_init) (hn : n ≤ gsl mX4_init) : WP mX4_init 46 [some (.ref a), some (.int (nI 4))] [] M (a + 20) k n (fun r M' z' => r = .inl none ∧ RugF M' a f00 ∧ Out M0 M' a 20 ∧ z' = a + 20) := by
  refine g_iload_1 dX4_init_46 ?_
  refine g_iconst (v := nI 4) dX4_init_47 rfl ?_
  refine g_icmp_geN (tgt := 70) dX4_init_48 (by decide) (by omega) (by omega) (fun _ => ?_) (fun h48 => absurd h48 (by omega))
  exact g_return rfl dX4_init_70 hk hn ⟨rfl, ⟨R00, fun _ => 0, fun _ _ => 0, ⟨h0, hC, hY, ⟨fm, hm, hfm⟩, hs⟩, Rel.zero⟩, hO, rfl⟩
theorem q_rugInit (h0 : M a = some (.inr (4, [.null, .null, .null, .int 0, .int 0, .int 0, .int 0, .int 0, .int 0]))) : Runs mX4_init [.ref a] M (a + 1) (fun r M' z' => r = .inl none ∧ RugF M' a f00 ∧ Out M M' a 20 ∧ z' = a + 20) := by
  refine runs_of plX4 rfl (Nat.le_of_ble_eq_true rfl) ?_
  show WP mX4_init 0 [some (.ref a), none] [] M (a + 1) 0 0 _
  refine g_aload_0 dX4_init_0 ?_
  refine g_objinit dX4_init_1 (oX4_3 rfl) gOI gOC (Nat.le_of_ble_eq_true rfl) (Nat.le_of_ble_eq_true rfl) ?_
  refine g_aload_0 dX4_init_4 ?_
  refine g_newQ dX4_init_5 (nX4_9 rfl) (Nat.le_of_ble_eq_true rfl) (Nat.le_of_ble_eq_true rfl) (fun M1 hN1 n1 => ?_)
  have h0 := (n1 _ (by omega)).trans h0
  refine g_dup dX4_init_8 rfl ?_
  refine g_i0 dX4_init_9 (iX4_11 rfl) rfl (Nat.le_of_ble_eq_true rfl) (Nat.le_of_ble_eq_true rfl) (Nat.le_of_ble_eq_true rfl) (c_canvasInit hN1) (fun r M2 z2 hq => ?_) (fun E M2 z2 hq => by obtain ⟨hq, -⟩ := hq; cases hq)
  obtain ⟨hr, hC, hO2, rfl⟩ := hq
  cases hr
  have h0 := (hO2 _ (by omega)).trans h0
  refine g_putFQ dX4_init_12 (fX4_12 rfl) rfl (gNN_of (by decide +kernel)) h0 rfl rfl (Nat.le_of_ble_eq_true rfl) (fun M3 h0 n3 => ?_)
  refine g_aload_0 dX4_init_15 ?_
  refine g_newQ dX4_init_16 (nX4_18 rfl) (Nat.le_of_ble_eq_true rfl) (Nat.le_of_ble_eq_true rfl) (fun M4 hN4 n4 => ?_)
  have h0 := (n4 _ (by omega)).trans h0
  refine g_dup dX4_init_19 rfl ?_
  refine g_i0 dX4_init_20 (iX4_20 rfl) rfl (Nat.le_of_ble_eq_true rfl) (Nat.le_of_ble_eq_true rfl) (Nat.le_of_ble_eq_true rfl) (c_yarnInit hN4) (fun r M2 z2 hq => ?_) (fun E M2 z2 hq => by obtain ⟨hq, -⟩ := hq; cases hq)
  obtain ⟨hr, hY, hO5, rfl⟩ := hq
  cases hr
  have hC := hC.keep (fun c c1 c2 => (hO5 c (by omega)).trans ((n4 c (by omega)).trans (n3 c (by omega))))
  have h0 := (hO5 _ (by omega)).trans h0
  refine g_putFQ dX4_init_23 (fX4_21 rfl) rfl (gNN_of (by decide +kernel)) h0 rfl rfl (Nat.le_of_ble_eq_true rfl) (fun M6 h0 n6 => ?_)
  refine g_aload_0 dX4_init_26 ?_
  refine g_iconst (v := nI 4) dX4_init_27 rfl ?_
  refine g_anewQ (kd := 5) dX4_init_28 (qX4_25 rfl) (by decide) rfl (nIc (by decide)) (nI_pos (by decide)) (by decide) (Nat.le_of_ble_eq_true rfl) (Nat.le_of_ble_eq_true rfl) (fun M7 hN7 n7 => ?_)
  have h0 := (n7 _ (by omega)).trans h0
  refine g_putFQ dX4_init_31 (fX4_27 rfl) rfl (gNN_of (by decide +kernel)) h0 rfl rfl (Nat.le_of_ble_eq_true rfl) (fun M8 h0 n8 => ?_)
  have hN7 := (n8 _ (by omega)).trans hN7
  refine g_aload_0 dX4_init_34 ?_
  refine g_iconst (v := -1) dX4_init_35 rfl ?_
  refine g_putQ dX4_init_36 (fX4_31 rfl) h0 rfl rfl (Nat.le_of_ble_eq_true rfl) (fun M9 h0 n9 => ?_)
  have hN7 := (n9 _ (by omega)).trans hN7
  refine g_aload_0 dX4_init_39 ?_
  refine g_iconst (v := nI 4) dX4_init_40 rfl ?_
  refine g_putQ dX4_init_41 (fX4_35 rfl) h0 rfl rfl (Nat.le_of_ble_eq_true rfl) (fun M10 h0 n10 => ?_)
  have hN7 := (n10 _ (by omega)).trans hN7
  refine g_iconst (v := nI 0) dX4_init_44 rfl ?_
  refine g_istore_1 rfl dX4_init_45 ?_
  have hO : Out M _ a 20 := fun b hb => (((((((((n10 b (by omega)).trans (n9 b (by omega))).trans (n8 b (by omega))).trans (n7 b (by omega))).trans (n6 b (by omega))).trans (hO5 b (by omega))).trans (n4 b (by omega))).trans (n3 b (by omega))).trans (hO2 b (by omega))).trans (n1 b (by omega))
  have hC1 := hC.keep (fun c c1 c2 => ((((n10 c (by omega)).trans (n9 c (by omega))).trans (n8 c (by omega))).trans (n7 c (by omega))).trans (n6 c (by omega)))
  have hY1 := hY.keep (fun c c1 c2 => ((((n10 c (by omega)).trans (n9 c (by omega))).trans (n8 c (by omega))).trans (n7 c (by omega))).trans (n6 c (by omega)))
  refine q_rugInit_step (M0 := _) (i := 0) (k := 11) (n := 469) h0 hN7 (fun j hj => absurd hj (by omega)) (fun j hj => absurd hj (by omega)) Out.rf (by decide) (by decide) (by decide) (fun M1 fm1 h0 hm hfm hs hO1 => ?_)
  refine q_rugInit_step (M0 := _) (i := 1) (k := 13) (n := 591) h0 hm hfm hs hO1 (by decide) (by decide) (by decide) (fun M2 fm2 h0 hm hfm hs hO1 => ?_)
  refine q_rugInit_step (M0 := _) (i := 2) (k := 15) (n := 713) h0 hm hfm hs hO1 (by decide) (by decide) (by decide) (fun M3 fm3 h0 hm hfm hs hO1 => ?_)
  refine q_rugInit_step (M0 := _) (i := 3) (k := 17) (n := 835) h0 hm hfm hs hO1 (by decide) (by decide) (by decide) (fun M4 fm4 h0 hm hfm hs hO1 => ?_)
  exact q_rugInit_end (M0 := M) h0 (hC1.keep (fun c c1 c2 => hO1 c (by omega))) (hY1.keep (fun c c1 c2 => hO1 c (by omega))) hm hfm hs (hO.tr (fun c hc => hO1 c (by omega))) (Nat.le_of_ble_eq_true rfl) (Nat.le_of_ble_eq_true rfl)
theorem c_historyInit (h0 : M a = some (.inr (2, [.null, .int 0, .int 0]))) : Runs mX2_init [.ref a] M (a + 1) (fun r M' z' => r = .inl none ∧ (M' a = some (.inr (2, [.ref (a + 1), .int 0, .int 0])) ∧ M' (a + 1) = some (aR 14 (fun _ => none))) ∧ Out M M' a 2 ∧ z' = a + 2) := by
  refine runs_of plX2 rfl (Nat.le_of_ble_eq_true rfl) ?_
  show WP mX2_init 0 [some (.ref a)] [] M (a + 1) 0 0 _
  refine g_aload_0 dX2_init_0 ?_
  refine g_objinit dX2_init_1 (oX2_1 rfl) gOI gOC (Nat.le_of_ble_eq_true rfl) (Nat.le_of_ble_eq_true rfl) ?_
  refine g_aload_0 dX2_init_4 ?_
  refine g_bipush (v := nI 14) dX2_init_5 rfl ?_
  refine g_anewQ (kd := 4) dX2_init_7 (qX2_9 rfl) (by decide) rfl (nIc (by decide)) (nI_pos (by decide)) (by decide) (Nat.le_of_ble_eq_true rfl) (Nat.le_of_ble_eq_true rfl) (fun M1 hN1 n1 => ?_)
  have h0 := (n1 _ (by omega)).trans h0
  refine g_putFQ dX2_init_10 (fX2_11 rfl) rfl (gNN_of (by decide +kernel)) h0 rfl rfl (Nat.le_of_ble_eq_true rfl) (fun M2 h0 n2 => ?_)
  have hN1 := (n2 _ (by omega)).trans hN1
  exact g_return rfl dX2_init_13 (Nat.le_of_ble_eq_true rfl) (Nat.le_of_ble_eq_true rfl) ⟨rfl, ⟨h0, hN1⟩, fun b hb => (n2 b (by omega)).trans (n1 b (by omega)), rfl⟩
theorem c_playerInit (h0 : M a = some (.inr (3, [.null, .null, .null, .null, .int 0, .int 0, .int 0]))) : Runs mX3_init [.ref a] M (a + 1) (fun r M' z' => r = .inl none ∧ (M' a = some (.inr (3, [.ref (a + 1), .ref (a + 2), .ref (a + 3), .ref (a + 4), .int 0, .int 0, .int 0])) ∧ M' (a + 1) = some (aS 5 (fun _ => none)) ∧ M' (a + 2) = some (aI 5 (fun _ => 0)) ∧ M' (a + 3) = some (aI 5 (fun _ => 0)) ∧ M' (a + 4) = some (aI 5 (fun _ => 0))) ∧ Out M M' a 5 ∧ z' = a + 5) := by
  refine runs_of plX3 rfl (Nat.le_of_ble_eq_true rfl) ?_
  show WP mX3_init 0 [some (.ref a)] [] M (a + 1) 0 0 _
  refine g_aload_0 dX3_init_0 ?_
  refine g_objinit dX3_init_1 (oX3_3 rfl) gOI gOC (Nat.le_of_ble_eq_true rfl) (Nat.le_of_ble_eq_true rfl) ?_
  refine g_aload_0 dX3_init_4 ?_
  refine g_iconst (v := nI 5) dX3_init_5 rfl ?_
  refine g_anewQ (kd := 5) dX3_init_6 (qX3_11 rfl) (by decide) rfl (nIc (by decide)) (nI_pos (by decide)) (by decide) (Nat.le_of_ble_eq_true rfl) (Nat.le_of_ble_eq_true rfl) (fun M1 hN1 n1 => ?_)
  have h0 := (n1 _ (by omega)).trans h0
  refine g_putFQ dX3_init_9 (fX3_13 rfl) rfl (gNN_of (by decide +kernel)) h0 rfl rfl (Nat.le_of_ble_eq_true rfl) (fun M2 h0 n2 => ?_)
  have hN1 := (n2 _ (by omega)).trans hN1
  refine g_aload_0 dX3_init_12 ?_
  refine g_iconst (v := nI 5) dX3_init_13 rfl ?_
  refine g_newarrQ (kd := 0) (a0 := (5, .inl (fun _ => 0))) dX3_init_14 gA_int (by decide) rfl (nIc (by decide)) (nI_pos (by decide)) (by decide) (fun _ => rfl) (Nat.le_of_ble_eq_true rfl) (Nat.le_of_ble_eq_true rfl) (fun M3 hN3 n3 => ?_)
  have h0 := (n3 _ (by omega)).trans h0
  have hN1 := (n3 _ (by omega)).trans hN1
  refine g_putFQ dX3_init_16 (fX3_17 rfl) rfl (gNN_of (by decide +kernel)) h0 rfl rfl (Nat.le_of_ble_eq_true rfl) (fun M4 h0 n4 => ?_)
  have hN1 := (n4 _ (by omega)).trans hN1
  have hN3 := (n4 _ (by omega)).trans hN3
  refine g_aload_0 dX3_init_19 ?_
  refine g_iconst (v := nI 5) dX3_init_20 rfl ?_
  refine g_newarrQ (kd := 0) (a0 := (5, .inl (fun _ => 0))) dX3_init_21 gA_int (by decide) rfl (nIc (by decide)) (nI_pos (by decide)) (by decide) (fun _ => rfl) (Nat.le_of_ble_eq_true rfl) (Nat.le_of_ble_eq_true rfl) (fun M5 hN5 n5 => ?_)
  have h0 := (n5 _ (by omega)).trans h0
  have hN1 := (n5 _ (by omega)).trans hN1
  have hN3 := (n5 _ (by omega)).trans hN3
  refine g_putFQ dX3_init_23 (fX3_21 rfl) rfl (gNN_of (by decide +kernel)) h0 rfl rfl (Nat.le_of_ble_eq_true rfl) (fun M6 h0 n6 => ?_)
  have hN1 := (n6 _ (by omega)).trans hN1
  have hN3 := (n6 _ (by omega)).trans hN3
  have hN5 := (n6 _ (by omega)).trans hN5
  refine g_aload_0 dX3_init_26 ?_
  refine g_iconst (v := nI 5) dX3_init_27 rfl ?_
  refine g_newarrQ (kd := 0) (a0 := (5, .inl (fun _ => 0))) dX3_init_28 gA_int (by decide) rfl (nIc (by decide)) (nI_pos (by decide)) (by decide) (fun _ => rfl) (Nat.le_of_ble_eq_true rfl) (Nat.le_of_ble_eq_true rfl) (fun M7 hN7 n7 => ?_)
  have h0 := (n7 _ (by omega)).trans h0
  have hN1 := (n7 _ (by omega)).trans hN1
  have hN3 := (n7 _ (by omega)).trans hN3
  have hN5 := (n7 _ (by omega)).trans hN5
  refine g_putFQ dX3_init_30 (fX3_24 rfl) rfl (gNN_of (by decide +kernel)) h0 rfl rfl (Nat.le_of_ble_eq_true rfl) (fun M8 h0 n8 => ?_)
  have hN1 := (n8 _ (by omega)).trans hN1
  have hN3 := (n8 _ (by omega)).trans hN3
  have hN5 := (n8 _ (by omega)).trans hN5
  have hN7 := (n8 _ (by omega)).trans hN7
  exact g_return rfl dX3_init_33 (Nat.le_of_ble_eq_true rfl) (Nat.le_of_ble_eq_true rfl) ⟨rfl, ⟨h0, hN1, hN3, hN5, hN7⟩, fun b hb => (((((((n8 b (by omega)).trans (n7 b (by omega))).trans (n6 b (by omega))).trans (n5 b (by omega))).trans (n4 b (by omega))).trans (n3 b (by omega))).trans (n2 b (by omega))).trans (n1 b (by omega)), rfl⟩
theorem c_areasInit (h0 : M a = some (.inr (0, [.null, .null, .int 0, .null]))) : Runs mX0_init [.ref a] M (a + 1) (fun r M' z' => r = .inl none ∧ (M' a = some (.inr (0, [.ref (a + 1), .ref (a + 2), .int 0, .ref (a + 3)])) ∧ M' (a + 1) = some (aZ 144 (fun _ => 0)) ∧ M' (a + 2) = some (aI 144 (fun _ => 0)) ∧ M' (a + 3) = some (aI 144 (fun _ => 0))) ∧ Out M M' a 4 ∧ z' = a + 4) := by
  refine runs_of plX0 rfl (Nat.le_of_ble_eq_true rfl) ?_
  show WP mX0_init 0 [some (.ref a)] [] M (a + 1) 0 0 _
  refine g_aload_0 dX0_init_0 ?_
  refine g_objinit dX0_init_1 (oX0_3 rfl) gOI gOC (Nat.le_of_ble_eq_true rfl) (Nat.le_of_ble_eq_true rfl) ?_
  refine g_aload_0 dX0_init_4 ?_
  refine g_sipush (v := nI 144) dX0_init_5 rfl ?_
  refine g_newarrQ (kd := 2) (a0 := (144, .inl (fun _ => 0))) dX0_init_8 gA_boolean (by decide) rfl (nIc (by decide)) (nI_pos (by decide)) (by decide) (fun _ => rfl) (Nat.le_of_ble_eq_true rfl) (Nat.le_of_ble_eq_true rfl) (fun M1 hN1 n1 => ?_)
  have h0 := (n1 _ (by omega)).trans h0
  refine g_putFQ dX0_init_10 (fX0_9 rfl) rfl (gNN_of (by decide +kernel)) h0 rfl rfl (Nat.le_of_ble_eq_true rfl) (fun M2 h0 n2 => ?_)
  have hN1 := (n2 _ (by omega)).trans hN1
  refine g_aload_0 dX0_init_13 ?_
  refine g_sipush (v := nI 144) dX0_init_14 rfl ?_
  refine g_newarrQ (kd := 0) (a0 := (144, .inl (fun _ => 0))) dX0_init_17 gA_int (by decide) rfl (nIc (by decide)) (nI_pos (by decide)) (by decide) (fun _ => rfl) (Nat.le_of_ble_eq_true rfl) (Nat.le_of_ble_eq_true rfl) (fun M3 hN3 n3 => ?_)
  have h0 := (n3 _ (by omega)).trans h0
  have hN1 := (n3 _ (by omega)).trans hN1
  refine g_putFQ dX0_init_19 (fX0_15 rfl) rfl (gNN_of (by decide +kernel)) h0 rfl rfl (Nat.le_of_ble_eq_true rfl) (fun M4 h0 n4 => ?_)
  have hN1 := (n4 _ (by omega)).trans hN1
  have hN3 := (n4 _ (by omega)).trans hN3
  refine g_aload_0 dX0_init_22 ?_
  refine g_sipush (v := nI 144) dX0_init_23 rfl ?_
  refine g_newarrQ (kd := 0) (a0 := (144, .inl (fun _ => 0))) dX0_init_26 gA_int (by decide) rfl (nIc (by decide)) (nI_pos (by decide)) (by decide) (fun _ => rfl) (Nat.le_of_ble_eq_true rfl) (Nat.le_of_ble_eq_true rfl) (fun M5 hN5 n5 => ?_)
  have h0 := (n5 _ (by omega)).trans h0
  have hN1 := (n5 _ (by omega)).trans hN1
  have hN3 := (n5 _ (by omega)).trans hN3
  refine g_putFQ dX0_init_28 (fX0_19 rfl) rfl (gNN_of (by decide +kernel)) h0 rfl rfl (Nat.le_of_ble_eq_true rfl) (fun M6 h0 n6 => ?_)
  have hN1 := (n6 _ (by omega)).trans hN1
  have hN3 := (n6 _ (by omega)).trans hN3
  have hN5 := (n6 _ (by omega)).trans hN5
  exact g_return rfl dX0_init_31 (Nat.le_of_ble_eq_true rfl) (Nat.le_of_ble_eq_true rfl) ⟨rfl, ⟨h0, hN1, hN3, hN5⟩, fun b hb => (((((n6 b (by omega)).trans (n5 b (by omega))).trans (n4 b (by omega))).trans (n3 b (by omega))).trans (n2 b (by omega))).trans (n1 b (by omega)), rfl⟩
end P24
