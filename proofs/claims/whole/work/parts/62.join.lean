section P62
variable {M M0 : Hp} {z a ab cb b c d i n h k x y u t hd : Nat} {f g : Row} {v w rc : Int32} {S : Nat → Bool} {ch : Nat → Nat} {O R C p q ht : Row} {Φ : GR → Hp → Nat → Prop} {l2 l3 l4 : Option Value}
def OC (C : Row) (ch : Nat → Nat) : Prop := ∀ c, c < 144 → C c = nI (ch c)
theorem OC.set (h : OC C ch) : OC (upd C x (nI y)) (updN ch x y) := fun c hc => by
  by_cases e : c = x
  · subst e
    rw [upd_eq]
    simp [updN]
  · rw [upd_ne e, h c hc]
    simp [updN, e]
def ChQ (M : Hp) (ch : Nat → Nat) (c z : Nat) : GR → Hp → Nat → Prop := fun res M' z' => ∃ r, Rt ch c r ∧ r < 144 ∧ res = .inl (some (.int (nI r))) ∧ M' = M ∧ z' = z
theorem q_ch4 (hA : ArAt M ab O R rc C) (hC : OC C ch) (hU : UF S ch u i) (hc : c < 144) : ∀ e t, t + e = 144 → WP mX0_chiefOf 4 [some (.ref ab), some (.int (nI c)), some (.int (nI (itr ch t c))), some (.int (nI t))] [] M z 0 0 (ChQ M ch c z) := by
  intro e
  induction e with
  | zero =>
    intro t ht
    have hl := hU.itr_lt hc t
    have hr : ch (itr ch t c) = itr ch t c := by
      obtain ⟨t0, h0, h1⟩ := hU.2.1 c hc
      have := hU.2.2.1
      have := cnt_le (fun c => !decide (ch c = c)) 144
      rw [Rt.ge (n := t) rfl h1 (by omega)]
      exact h1
    refine g_iload_3 dX0_chiefOf_4 ?_
    refine g_sipush (v := nI 144) dX0_chiefOf_5 rfl ?_
    refine g_icmp_geN (tgt := 45) dX0_chiefOf_8 (by decide) (by omega) (by omega) (fun _ => ?_) (fun h8 => absurd h8 (by omega))
    refine g_iload_2 dX0_chiefOf_45 ?_
    exact g_ireturn rfl rfl dX0_chiefOf_46 (Nat.le_of_ble_eq_true rfl) (Nat.le_of_ble_eq_true rfl) ⟨_, ⟨⟨t, rfl⟩, hr⟩, hl, rfl, rfl, rfl⟩
  | succ e ih =>
    intro t ht
    have hl := hU.itr_lt hc t
    refine g_iload_3 dX0_chiefOf_4 ?_
    refine g_sipush (v := nI 144) dX0_chiefOf_5 rfl ?_
    refine g_icmp_geN (tgt := 45) dX0_chiefOf_8 (by decide) (by (have := hU.1 _ hl; omega)) (by (have := hU.1 _ hl; omega)) (fun h8 => absurd h8 (by omega)) (fun _ => ?_)
    refine g_iload_2 dX0_chiefOf_11 ?_
    refine g_if_ltN (tgt := 45) dX0_chiefOf_12 (by decide) (by (have := hU.1 _ hl; omega)) ?_
    refine g_iload_2 dX0_chiefOf_15 ?_
    refine g_sipush (v := nI 144) dX0_chiefOf_16 rfl ?_
    refine g_icmp_geN (tgt := 45) dX0_chiefOf_19 (by decide) (by (have := hU.1 _ hl; omega)) (by (have := hU.1 _ hl; omega)) (fun h19 => absurd h19 (by omega)) (fun _ => ?_)
    refine g_aload_0 dX0_chiefOf_22 ?_
    refine g_get dX0_chiefOf_23 (fX0_19 rfl) hA.1 rfl ?_
    refine g_iload_2 dX0_chiefOf_26 ?_
    refine g_ialdN dX0_chiefOf_27 hA.2.2.2 (by (have := hU.1 _ hl; omega)) (by decide) ?_
    rw [hC _ hl]
    refine g_iload_2 dX0_chiefOf_28 ?_
    refine g_icmp_eqN (tgt := 45) dX0_chiefOf_29 (by decide) (by (have := hU.1 _ hl; omega)) (by (have := hU.1 _ hl; omega)) (fun h29 => ?_) (fun h29 => ?_)
    · refine g_iload_2 dX0_chiefOf_45 ?_
      exact g_ireturn rfl rfl dX0_chiefOf_46 (Nat.le_of_ble_eq_true rfl) (Nat.le_of_ble_eq_true rfl) ⟨_, ⟨⟨t, rfl⟩, h29⟩, hl, rfl, rfl, rfl⟩
    · refine g_aload_0 dX0_chiefOf_32 ?_
      refine g_get dX0_chiefOf_33 (fX0_19 rfl) hA.1 rfl ?_
      refine g_iload_2 dX0_chiefOf_36 ?_
      refine g_ialdN dX0_chiefOf_37 hA.2.2.2 (by (have := hU.1 _ hl; omega)) (by decide) ?_
      rw [hC _ hl, ← itr_s (ch := ch) t c]
      refine g_istore_2 rfl dX0_chiefOf_38 ?_
      refine g_iincN_3 (q := 1) rfl dX0_chiefOf_39 rfl ?_
      refine g_goto (tgt := 4) dX0_chiefOf_42 (by decide) ?_
      exact ih (t + 1) (by omega)
theorem q_chiefOf (hA : ArAt M ab O R rc C) (hC : OC C ch) (hU : UF S ch u i) (hc : c < 144) : Runs mX0_chiefOf [.ref ab, .int (nI c)] M z (ChQ M ch c z) := by
  refine runs_of plX0 rfl (Nat.le_of_ble_eq_true rfl) ?_
  show WP mX0_chiefOf 0 [some (.ref ab), some (.int (nI c)), none, none] [] M z 0 0 _
  refine g_iload_1 dX0_chiefOf_0 ?_
  refine g_istore_2 rfl dX0_chiefOf_1 ?_
  refine g_iconst (v := nI 0) dX0_chiefOf_2 rfl ?_
  refine g_istore_3 rfl dX0_chiefOf_3 ?_
  exact q_ch4 hA hC hU hc 144 0 rfl
def JQ (M : Hp) (ab : Nat) (S : Nat → Bool) (ch : Nat → Nat) (x hd i z : Nat) : GR → Hp → Nat → Prop := fun res M' z' => ∃ (bq : Bool) (O R C : Row) (rc : Int32) (ch' : Nat → Nat) (u' : Nat), res = .inl (some (.int (bI bq))) ∧ ArAt M' ab O R rc C ∧ OC C ch' ∧ UF S ch' u' i ∧ PD S ch' x (hd + 1) ∧ cnt (rtB S ch') i + (if bq = true then 1 else 0) = cnt (rtB S ch) i ∧ Out M M' ab 4 ∧ z' = z
theorem q_join2 (hA : ArAt M ab O R rc C) (hC : OC C ch) (hU : UF (clS p c) ch u (x + 1)) (hP : PD (clS p c) ch x 2) (hx : x < 144) (hSx : p x = nI c) (hcv : CanvasAt M cb p q ht) (hcd : cb + 4 ≤ ab ∨ ab + 4 ≤ cb) : Runs mX0_joinBeside [.ref ab, .ref cb, .int (nI x), .int (nI 2)] M z (JQ M ab (clS p c) ch x 2 (x + 1) z) := by
  have hao := hA.1
  refine runs_of plX0 rfl (Nat.le_of_ble_eq_true rfl) ?_
  show WP mX0_joinBeside 0 [some (.ref ab), some (.ref cb), some (.int (nI x)), some (.int (nI 2)), none, none, none] [] M z 0 0 _
  cases hb : besd x 2 with
  | none =>
    refine g_iload_2 dX0_joinBeside_0 ?_
    refine g_iload_3 dX0_joinBeside_1 ?_
    refine g_s2_1 dX0_joinBeside_2 (sX0_39 rfl) rfl (Nat.le_of_ble_eq_true rfl) ⟨rfl, rfl⟩ (Nat.le_of_ble_eq_true rfl) (Nat.le_of_ble_eq_true rfl) ((by have e := c_beside (z := z) (M := M) hx (show 2 < 4 by omega); rw [hb] at e; exact e)) ?_
    refine g_istore_4 rfl dX0_joinBeside_5 ?_
    refine g_iload_4 dX0_joinBeside_7 ?_
    refine g_iconst (v := -1) dX0_joinBeside_9 rfl ?_
    refine g_icmp_eq (tgt := 27) dX0_joinBeside_10 (by decide)  (fun _ => ?_) (fun h10 => absurd rfl h10)
    refine g_iconst (v := nI 0) dX0_joinBeside_27 rfl ?_
    exact g_ireturn rfl rfl dX0_joinBeside_28 (Nat.le_of_ble_eq_true rfl) (Nat.le_of_ble_eq_true rfl) ⟨false, O, R, C, rc, ch, u, rfl, hA, hC, hU, hP.step (fun y' hs hb' hs' => by rw [hb] at hb'; cases hb'), rfl, Out.rf, rfl⟩
  | some y =>
    have hy : y < 144 := besd_lt hx hb
    refine g_iload_2 dX0_joinBeside_0 ?_
    refine g_iload_3 dX0_joinBeside_1 ?_
    refine g_s2_1 dX0_joinBeside_2 (sX0_39 rfl) rfl (Nat.le_of_ble_eq_true rfl) ⟨rfl, rfl⟩ (Nat.le_of_ble_eq_true rfl) (Nat.le_of_ble_eq_true rfl) ((by have e := c_beside (z := z) (M := M) hx (show 2 < 4 by omega); rw [hb] at e; exact e)) ?_
    refine g_istore_4 rfl dX0_joinBeside_5 ?_
    refine g_iload_4 dX0_joinBeside_7 ?_
    refine g_iconst (v := -1) dX0_joinBeside_9 rfl ?_
    refine g_icmp_eq (tgt := 27) dX0_joinBeside_10 (by decide)  (fun h10 => absurd h10 (nI_nm1 (by omega))) (fun _ => ?_)
    refine g_aload_1 dX0_joinBeside_13 ?_
    refine g_iload_4 dX0_joinBeside_14 ?_
    refine g_v1_1 dX0_joinBeside_16 (vX0_22 rfl) rfl hcv.1 (Nat.le_of_ble_eq_true rfl) ⟨rfl, rfl⟩ (Nat.le_of_ble_eq_true rfl) (Nat.le_of_ble_eq_true rfl) (c_planAt hcv hy) ?_
    refine g_aload_1 dX0_joinBeside_19 ?_
    refine g_iload_2 dX0_joinBeside_20 ?_
    refine g_v1_1 dX0_joinBeside_21 (vX0_22 rfl) rfl hcv.1 (Nat.le_of_ble_eq_true rfl) ⟨rfl, rfl⟩ (Nat.le_of_ble_eq_true rfl) (Nat.le_of_ble_eq_true rfl) (c_planAt hcv hx) ?_
    refine g_icmp_eq (tgt := 29) dX0_joinBeside_24 (by decide)  (fun h24 => ?_) (fun h24 => ?_)
    · refine g_aload_0 dX0_joinBeside_29 ?_
      refine g_iload_2 dX0_joinBeside_30 ?_
      refine g_v1 dX0_joinBeside_31 (vX0_47 rfl) rfl hA.1 (Nat.le_of_ble_eq_true rfl) (Nat.le_of_ble_eq_true rfl) (Nat.le_of_ble_eq_true rfl) (q_chiefOf hA hC hU hx) (fun r M2 z2 hq => ?_) (fun E M2 z2 hq => by obtain ⟨_, _, _, hr, -⟩ := hq; cases hr)
      obtain ⟨r1, hr1, hl1, hr, rfl, rfl⟩ := hq
      cases hr
      have hA1 := hA
      have hcv1 := hcv
      refine g_istore_5 rfl dX0_joinBeside_34 ?_
      refine g_aload_0 dX0_joinBeside_36 ?_
      refine g_iload_4 dX0_joinBeside_37 ?_
      refine g_v1 dX0_joinBeside_39 (vX0_47 rfl) rfl hA.1 (Nat.le_of_ble_eq_true rfl) (Nat.le_of_ble_eq_true rfl) (Nat.le_of_ble_eq_true rfl) (q_chiefOf hA hC hU hy) (fun r M2 z2 hq => ?_) (fun E M2 z2 hq => by obtain ⟨_, _, _, hr, -⟩ := hq; cases hr)
      obtain ⟨r2, hr2, hl2, hr, rfl, rfl⟩ := hq
      cases hr
      refine g_istore_6 rfl dX0_joinBeside_42 ?_
      refine g_iload_5 dX0_joinBeside_44 ?_
      refine g_iload_6 dX0_joinBeside_46 ?_
      refine g_icmp_eqN (tgt := 64) dX0_joinBeside_48 (by decide) (by omega) (by omega) (fun h48 => ?_) (fun h48 => ?_)
      · refine g_iconst (v := nI 0) dX0_joinBeside_64 rfl ?_
        exact g_ireturn rfl rfl dX0_joinBeside_65 (Nat.le_of_ble_eq_true rfl) (Nat.le_of_ble_eq_true rfl) ⟨false, O, R, C, rc, ch, u, rfl, hA, hC, hU, hP.step (fun y' hs hb' hs' => by rw [hb] at hb'; cases hb'; exact ⟨r1, hr1, h48 ▸ hr2⟩), rfl, Out.rf, rfl⟩
      · refine g_iload_5 dX0_joinBeside_51 ?_
        refine g_if_ltN (tgt := 64) dX0_joinBeside_53 (by decide) (by omega) ?_
        refine g_iload_5 dX0_joinBeside_56 ?_
        refine g_sipush (v := nI 144) dX0_joinBeside_58 rfl ?_
        refine g_icmp_ltN (tgt := 66) dX0_joinBeside_61 (by decide) (by omega) (by omega) (fun _ => ?_) (fun h61 => absurd h61 (by omega))
        refine g_aload_0 dX0_joinBeside_66 ?_
        refine g_get dX0_joinBeside_67 (fX0_19 rfl) hA.1 rfl ?_
        refine g_iload_5 dX0_joinBeside_70 ?_
        refine g_iload_6 dX0_joinBeside_72 ?_
        refine g_arch dX0_joinBeside_74 hA (by omega) (fun M3 hA3 hO3 => ?_)
        refine g_iconst (v := nI 1) dX0_joinBeside_75 rfl ?_
        have hS1 : clS p c x = true := decide_eq_true hSx
        have hS2 : clS p c y = true := decide_eq_true (h24.trans hSx)
        have hyx := besd_23 (Or.inl rfl) hb
        have hr1' := hr1
        obtain ⟨⟨t1, e1⟩, s1⟩ := hr1'
        have hr1i : r1 < x + 1 := e1 ▸ hU.itr_i (Nat.lt_succ_self x) t1
        have hSr : clS p c r1 = true := (e1 ▸ hU.conn hx t1 : Conn (clS p c) r1 x).sym.mem hS1
        have hxy : Conn (clS p c) x y := Conn.st hx (show 2 < 4 by omega) hb hS1 hS2
        refine g_ireturn rfl rfl dX0_joinBeside_76 (Nat.le_of_ble_eq_true rfl) (Nat.le_of_ble_eq_true rfl) ⟨true, O, R, _, rc, updN ch r1 r2, u + 1, rfl, hA3, hC.set, hU.join hx (by omega) (by omega) hxy hr1 hr2 h48, (hP.upd hr1.2 hr2.2 h48).step (fun y' hs hb' hs' => ?_), rt_join hr1i hSr hr1.2 h48, hO3, rfl⟩
        rw [hb] at hb'
        cases hb'
        have u1 := hr1.upd hr1.2 hr2.2 h48
        have u2 := hr2.upd hr1.2 hr2.2 h48
        rw [if_pos rfl] at u1
        rw [if_neg (fun w => h48 w.symm)] at u2
        exact ⟨r2, u1, u2⟩
    · refine g_iconst (v := nI 0) dX0_joinBeside_27 rfl ?_
      exact g_ireturn rfl rfl dX0_joinBeside_28 (Nat.le_of_ble_eq_true rfl) (Nat.le_of_ble_eq_true rfl) ⟨false, O, R, C, rc, ch, u, rfl, hA, hC, hU, hP.step (fun y' hs hb' hs' => by rw [hb] at hb'; cases hb'; exact absurd ((of_decide_eq_true hs').trans hSx.symm) h24), rfl, Out.rf, rfl⟩
theorem q_join3 (hA : ArAt M ab O R rc C) (hC : OC C ch) (hU : UF (clS p c) ch u (x + 1)) (hP : PD (clS p c) ch x 3) (hx : x < 144) (hSx : p x = nI c) (hcv : CanvasAt M cb p q ht) (hcd : cb + 4 ≤ ab ∨ ab + 4 ≤ cb) : Runs mX0_joinBeside [.ref ab, .ref cb, .int (nI x), .int (nI 3)] M z (JQ M ab (clS p c) ch x 3 (x + 1) z) := by
  have hao := hA.1
  refine runs_of plX0 rfl (Nat.le_of_ble_eq_true rfl) ?_
  show WP mX0_joinBeside 0 [some (.ref ab), some (.ref cb), some (.int (nI x)), some (.int (nI 3)), none, none, none] [] M z 0 0 _
  cases hb : besd x 3 with
  | none =>
    refine g_iload_2 dX0_joinBeside_0 ?_
    refine g_iload_3 dX0_joinBeside_1 ?_
    refine g_s2_1 dX0_joinBeside_2 (sX0_39 rfl) rfl (Nat.le_of_ble_eq_true rfl) ⟨rfl, rfl⟩ (Nat.le_of_ble_eq_true rfl) (Nat.le_of_ble_eq_true rfl) ((by have e := c_beside (z := z) (M := M) hx (show 3 < 4 by omega); rw [hb] at e; exact e)) ?_
    refine g_istore_4 rfl dX0_joinBeside_5 ?_
    refine g_iload_4 dX0_joinBeside_7 ?_
    refine g_iconst (v := -1) dX0_joinBeside_9 rfl ?_
    refine g_icmp_eq (tgt := 27) dX0_joinBeside_10 (by decide)  (fun _ => ?_) (fun h10 => absurd rfl h10)
    refine g_iconst (v := nI 0) dX0_joinBeside_27 rfl ?_
    exact g_ireturn rfl rfl dX0_joinBeside_28 (Nat.le_of_ble_eq_true rfl) (Nat.le_of_ble_eq_true rfl) ⟨false, O, R, C, rc, ch, u, rfl, hA, hC, hU, hP.step (fun y' hs hb' hs' => by rw [hb] at hb'; cases hb'), rfl, Out.rf, rfl⟩
  | some y =>
    have hy : y < 144 := besd_lt hx hb
    refine g_iload_2 dX0_joinBeside_0 ?_
    refine g_iload_3 dX0_joinBeside_1 ?_
    refine g_s2_1 dX0_joinBeside_2 (sX0_39 rfl) rfl (Nat.le_of_ble_eq_true rfl) ⟨rfl, rfl⟩ (Nat.le_of_ble_eq_true rfl) (Nat.le_of_ble_eq_true rfl) ((by have e := c_beside (z := z) (M := M) hx (show 3 < 4 by omega); rw [hb] at e; exact e)) ?_
    refine g_istore_4 rfl dX0_joinBeside_5 ?_
    refine g_iload_4 dX0_joinBeside_7 ?_
    refine g_iconst (v := -1) dX0_joinBeside_9 rfl ?_
    refine g_icmp_eq (tgt := 27) dX0_joinBeside_10 (by decide)  (fun h10 => absurd h10 (nI_nm1 (by omega))) (fun _ => ?_)
    refine g_aload_1 dX0_joinBeside_13 ?_
    refine g_iload_4 dX0_joinBeside_14 ?_
    refine g_v1_1 dX0_joinBeside_16 (vX0_22 rfl) rfl hcv.1 (Nat.le_of_ble_eq_true rfl) ⟨rfl, rfl⟩ (Nat.le_of_ble_eq_true rfl) (Nat.le_of_ble_eq_true rfl) (c_planAt hcv hy) ?_
    refine g_aload_1 dX0_joinBeside_19 ?_
    refine g_iload_2 dX0_joinBeside_20 ?_
    refine g_v1_1 dX0_joinBeside_21 (vX0_22 rfl) rfl hcv.1 (Nat.le_of_ble_eq_true rfl) ⟨rfl, rfl⟩ (Nat.le_of_ble_eq_true rfl) (Nat.le_of_ble_eq_true rfl) (c_planAt hcv hx) ?_
    refine g_icmp_eq (tgt := 29) dX0_joinBeside_24 (by decide)  (fun h24 => ?_) (fun h24 => ?_)
    · refine g_aload_0 dX0_joinBeside_29 ?_
      refine g_iload_2 dX0_joinBeside_30 ?_
      refine g_v1 dX0_joinBeside_31 (vX0_47 rfl) rfl hA.1 (Nat.le_of_ble_eq_true rfl) (Nat.le_of_ble_eq_true rfl) (Nat.le_of_ble_eq_true rfl) (q_chiefOf hA hC hU hx) (fun r M2 z2 hq => ?_) (fun E M2 z2 hq => by obtain ⟨_, _, _, hr, -⟩ := hq; cases hr)
      obtain ⟨r1, hr1, hl1, hr, rfl, rfl⟩ := hq
      cases hr
      have hA1 := hA
      have hcv1 := hcv
      refine g_istore_5 rfl dX0_joinBeside_34 ?_
      refine g_aload_0 dX0_joinBeside_36 ?_
      refine g_iload_4 dX0_joinBeside_37 ?_
      refine g_v1 dX0_joinBeside_39 (vX0_47 rfl) rfl hA.1 (Nat.le_of_ble_eq_true rfl) (Nat.le_of_ble_eq_true rfl) (Nat.le_of_ble_eq_true rfl) (q_chiefOf hA hC hU hy) (fun r M2 z2 hq => ?_) (fun E M2 z2 hq => by obtain ⟨_, _, _, hr, -⟩ := hq; cases hr)
      obtain ⟨r2, hr2, hl2, hr, rfl, rfl⟩ := hq
      cases hr
      refine g_istore_6 rfl dX0_joinBeside_42 ?_
      refine g_iload_5 dX0_joinBeside_44 ?_
      refine g_iload_6 dX0_joinBeside_46 ?_
      refine g_icmp_eqN (tgt := 64) dX0_joinBeside_48 (by decide) (by omega) (by omega) (fun h48 => ?_) (fun h48 => ?_)
      · refine g_iconst (v := nI 0) dX0_joinBeside_64 rfl ?_
        exact g_ireturn rfl rfl dX0_joinBeside_65 (Nat.le_of_ble_eq_true rfl) (Nat.le_of_ble_eq_true rfl) ⟨false, O, R, C, rc, ch, u, rfl, hA, hC, hU, hP.step (fun y' hs hb' hs' => by rw [hb] at hb'; cases hb'; exact ⟨r1, hr1, h48 ▸ hr2⟩), rfl, Out.rf, rfl⟩
      · refine g_iload_5 dX0_joinBeside_51 ?_
        refine g_if_ltN (tgt := 64) dX0_joinBeside_53 (by decide) (by omega) ?_
        refine g_iload_5 dX0_joinBeside_56 ?_
        refine g_sipush (v := nI 144) dX0_joinBeside_58 rfl ?_
        refine g_icmp_ltN (tgt := 66) dX0_joinBeside_61 (by decide) (by omega) (by omega) (fun _ => ?_) (fun h61 => absurd h61 (by omega))
        refine g_aload_0 dX0_joinBeside_66 ?_
        refine g_get dX0_joinBeside_67 (fX0_19 rfl) hA.1 rfl ?_
        refine g_iload_5 dX0_joinBeside_70 ?_
        refine g_iload_6 dX0_joinBeside_72 ?_
        refine g_arch dX0_joinBeside_74 hA (by omega) (fun M3 hA3 hO3 => ?_)
        refine g_iconst (v := nI 1) dX0_joinBeside_75 rfl ?_
        have hS1 : clS p c x = true := decide_eq_true hSx
        have hS2 : clS p c y = true := decide_eq_true (h24.trans hSx)
        have hyx := besd_23 (Or.inr rfl) hb
        have hr1' := hr1
        obtain ⟨⟨t1, e1⟩, s1⟩ := hr1'
        have hr1i : r1 < x + 1 := e1 ▸ hU.itr_i (Nat.lt_succ_self x) t1
        have hSr : clS p c r1 = true := (e1 ▸ hU.conn hx t1 : Conn (clS p c) r1 x).sym.mem hS1
        have hxy : Conn (clS p c) x y := Conn.st hx (show 3 < 4 by omega) hb hS1 hS2
        refine g_ireturn rfl rfl dX0_joinBeside_76 (Nat.le_of_ble_eq_true rfl) (Nat.le_of_ble_eq_true rfl) ⟨true, O, R, _, rc, updN ch r1 r2, u + 1, rfl, hA3, hC.set, hU.join hx (by omega) (by omega) hxy hr1 hr2 h48, (hP.upd hr1.2 hr2.2 h48).step (fun y' hs hb' hs' => ?_), rt_join hr1i hSr hr1.2 h48, hO3, rfl⟩
        rw [hb] at hb'
        cases hb'
        have u1 := hr1.upd hr1.2 hr2.2 h48
        have u2 := hr2.upd hr1.2 hr2.2 h48
        rw [if_pos rfl] at u1
        rw [if_neg (fun w => h48 w.symm)] at u2
        exact ⟨r2, u1, u2⟩
    · refine g_iconst (v := nI 0) dX0_joinBeside_27 rfl ?_
      exact g_ireturn rfl rfl dX0_joinBeside_28 (Nat.le_of_ble_eq_true rfl) (Nat.le_of_ble_eq_true rfl) ⟨false, O, R, C, rc, ch, u, rfl, hA, hC, hU, hP.step (fun y' hs hb' hs' => by rw [hb] at hb'; cases hb'; exact absurd ((of_decide_eq_true hs').trans hSx.symm) h24), rfl, Out.rf, rfl⟩
def iniC (C : Row) (t : Nat) : Row := fun k => if k < t then nI k else C k
theorem iniC_step : upd (iniC C i) i (nI i) = iniC C (i + 1) := by
  funext k
  simp only [upd, iniC]
  by_cases h : k = i
  · subst h
    rw [if_pos rfl, if_pos (show k < k + 1 from Nat.lt_succ_self k)]
  · rw [if_neg h]
    by_cases h2 : k < i
    · rw [if_pos h2, if_pos (show k < i + 1 by omega)]
    · rw [if_neg h2, if_neg (show ¬ k < i + 1 by omega)]
theorem q_cj2 (hk : ∀ M, ArAt M ab O R rc (iniC C 144) → Out M0 M ab 4 → WP mX0_countJoining 22 [some (.ref ab), some (.ref cb), some (.int (nI c)), some (.int (nI 144)), none] [] M z 0 0 Φ) : ∀ d i {M : Hp}, i + d = 144 → ArAt M ab O R rc (iniC C i) → Out M0 M ab 4 → WP mX0_countJoining 2 [some (.ref ab), some (.ref cb), some (.int (nI c)), some (.int (nI i)), none] [] M z 0 0 Φ := by
  intro d
  induction d with
  | zero =>
    intro i M hi hA hO
    obtain rfl : i = 144 := by omega
    refine g_iload_3 dX0_countJoining_2 ?_
    refine g_sipush (v := nI 144) dX0_countJoining_3 rfl ?_
    refine g_icmp_geN (tgt := 22) dX0_countJoining_6 (by decide) (by omega) (by omega) (fun _ => ?_) (fun h6 => absurd h6 (by omega))
    exact hk M hA hO
  | succ d ih =>
    intro i M hi hA hO
    refine g_iload_3 dX0_countJoining_2 ?_
    refine g_sipush (v := nI 144) dX0_countJoining_3 rfl ?_
    refine g_icmp_geN (tgt := 22) dX0_countJoining_6 (by decide) (by omega) (by omega) (fun h6 => absurd h6 (by omega)) (fun _ => ?_)
    refine g_aload_0 dX0_countJoining_9 ?_
    refine g_get dX0_countJoining_10 (fX0_19 rfl) hA.1 rfl ?_
    refine g_iload_3 dX0_countJoining_13 ?_
    refine g_iload_3 dX0_countJoining_14 ?_
    refine g_arch dX0_countJoining_15 hA (by omega) (fun M1 hA1 hO1 => ?_)
    rw [iniC_step] at hA1
    refine g_iincN_3 (q := 1) rfl dX0_countJoining_16 rfl ?_
    refine g_goto (tgt := 2) dX0_countJoining_19 (by decide) ?_
    exact ih (i + 1) (by omega) hA1 (hO.tr hO1)
theorem q_cj67 (hcv : CanvasAt M0 cb p q ht) (hcd : cb + 4 ≤ ab ∨ ab + 4 ≤ cb) (hA : ArAt M ab O R rc C) (hC : OC C ch) (hO : Out M0 M ab 4) (hi : i < 144) (hS : p i = nI c) (hU : UF (clS p c) ch u (i + 1)) (hP : PD (clS p c) ch i 3) (hk : ∀ (M : Hp) (O R C : Row) (rc : Int32) (ch : Nat → Nat) (u : Nat), ArAt M ab O R rc C → OC C ch → Out M0 M ab 4 → UF (clS p c) ch u (i + 1) → PD (clS p c) ch (i + 1) 2 → WP mX0_countJoining 27 [some (.ref ab), some (.ref cb), some (.int (nI c)), some (.int (nI (cnt (rtB (clS p c) ch) (i + 1)))), some (.int (nI (i + 1)))] [] M z 0 0 Φ) : WP mX0_countJoining 67 [some (.ref ab), some (.ref cb), some (.int (nI c)), some (.int (nI (cnt (rtB (clS p c) ch) (i + 1)))), some (.int (nI i))] [] M z 0 0 Φ := by
  have hcv1 : CanvasAt M cb p q ht := hcv.keep (fun b b1 b2 => hO b (by omega))
  refine g_iload_3 dX0_countJoining_67 ?_
  refine g_aload_0 dX0_countJoining_68 ?_
  refine g_aload_1 dX0_countJoining_69 ?_
  refine g_iload_4 dX0_countJoining_70 ?_
  refine g_iconst (v := nI 3) dX0_countJoining_72 rfl ?_
  refine g_v3 dX0_countJoining_73 (vX0_43 rfl) rfl hA.1 (Nat.le_of_ble_eq_true rfl) (Nat.le_of_ble_eq_true rfl) (Nat.le_of_ble_eq_true rfl) (q_join3 hA hC hU hP hi hS hcv1 hcd) (fun r M2 z2 hq => ?_) (fun E M2 z2 hq => by obtain ⟨_, _, _, _, _, _, _, hr, -⟩ := hq; cases hr)
  obtain ⟨bq, O', R', C', rc', ch', u', hr, hA1, hC1, hU1, hP1, hcn, hO1, rfl⟩ := hq
  cases hr
  refine g_if_eqB (tgt := 83) dX0_countJoining_76 (by decide)  (fun h76 => ?_) (fun h76 => ?_)
  · rw [h76, if_neg (by decide)] at hcn
    refine g_iconst (v := nI 0) dX0_countJoining_83 rfl ?_
    refine g_isubN dX0_countJoining_84 (by omega) ?_
    refine g_istore_3 rfl dX0_countJoining_85 ?_
    refine g_iincN_4 (q := 1) rfl dX0_countJoining_86 rfl ?_
    refine g_goto (tgt := 27) dX0_countJoining_89 (by decide) ?_
    have hcn2 : ∀ e, cnt (rtB (clS p c) ch) (i + 1) - e = cnt (rtB (clS p c) ch') (i + 1) → WP mX0_countJoining 27 [some (.ref ab), some (.ref cb), some (.int (nI c)), some (.int (nI (cnt (rtB (clS p c) ch) (i + 1) - e))), some (.int (nI (i + 1)))] [] M2 _ 0 0 Φ := fun e he => by
      rw [he]
      exact hk M2 O' R' C' rc' ch' u' hA1 hC1 (hO.tr hO1) hU1 hP1.next
    exact hcn2 _ (by first | (have hcn : cnt (rtB (clS p c) ch') (i + 1) + 0 = cnt (rtB (clS p c) ch) (i + 1) := hcn; omega) | (have hcn : cnt (rtB (clS p c) ch') (i + 1) + 1 = cnt (rtB (clS p c) ch) (i + 1) := hcn; omega))
  · rw [h76, if_pos rfl] at hcn
    refine g_iconst (v := nI 1) dX0_countJoining_79 rfl ?_
    refine g_goto (tgt := 84) dX0_countJoining_80 (by decide) ?_
    refine g_isubN dX0_countJoining_84 (by omega) ?_
    refine g_istore_3 rfl dX0_countJoining_85 ?_
    refine g_iincN_4 (q := 1) rfl dX0_countJoining_86 rfl ?_
    refine g_goto (tgt := 27) dX0_countJoining_89 (by decide) ?_
    have hcn2 : ∀ e, cnt (rtB (clS p c) ch) (i + 1) - e = cnt (rtB (clS p c) ch') (i + 1) → WP mX0_countJoining 27 [some (.ref ab), some (.ref cb), some (.int (nI c)), some (.int (nI (cnt (rtB (clS p c) ch) (i + 1) - e))), some (.int (nI (i + 1)))] [] M2 _ 0 0 Φ := fun e he => by
      rw [he]
      exact hk M2 O' R' C' rc' ch' u' hA1 hC1 (hO.tr hO1) hU1 hP1.next
    exact hcn2 _ (by first | (have hcn : cnt (rtB (clS p c) ch') (i + 1) + 0 = cnt (rtB (clS p c) ch) (i + 1) := hcn; omega) | (have hcn : cnt (rtB (clS p c) ch') (i + 1) + 1 = cnt (rtB (clS p c) ch) (i + 1) := hcn; omega))
theorem q_cj45 (hcv : CanvasAt M0 cb p q ht) (hcd : cb + 4 ≤ ab ∨ ab + 4 ≤ cb) (hA : ArAt M ab O R rc C) (hC : OC C ch) (hO : Out M0 M ab 4) (hi : i < 144) (hS : p i = nI c) (hU0 : UF (clS p c) ch u i) (hP : PD (clS p c) ch i 2) (hk : ∀ (M : Hp) (O R C : Row) (rc : Int32) (ch : Nat → Nat) (u : Nat), ArAt M ab O R rc C → OC C ch → Out M0 M ab 4 → UF (clS p c) ch u (i + 1) → PD (clS p c) ch (i + 1) 2 → WP mX0_countJoining 27 [some (.ref ab), some (.ref cb), some (.int (nI c)), some (.int (nI (cnt (rtB (clS p c) ch) (i + 1)))), some (.int (nI (i + 1)))] [] M z 0 0 Φ) : WP mX0_countJoining 45 [some (.ref ab), some (.ref cb), some (.int (nI c)), some (.int (nI (cnt (rtB (clS p c) ch) i))), some (.int (nI i))] [] M z 0 0 Φ := by
  have hcv1 : CanvasAt M cb p q ht := hcv.keep (fun b b1 b2 => hO b (by omega))
  have hU := hU0.next hi
  have hrt : cnt (rtB (clS p c) ch) (i + 1) = cnt (rtB (clS p c) ch) i + 1 := cnt_t (by
    show (clS p c i && decide (ch i = i)) = true
    rw [show clS p c i = true from decide_eq_true hS, hU0.2.2.2.2.2 i (Nat.le_refl i) hi]
    simp)
  refine g_iincN_3 (q := 1) rfl dX0_countJoining_45 rfl ?_
  refine g_iload_3 dX0_countJoining_48 ?_
  refine g_aload_0 dX0_countJoining_49 ?_
  refine g_aload_1 dX0_countJoining_50 ?_
  refine g_iload_4 dX0_countJoining_51 ?_
  refine g_iconst (v := nI 2) dX0_countJoining_53 rfl ?_
  refine g_v3 dX0_countJoining_54 (vX0_43 rfl) rfl hA.1 (Nat.le_of_ble_eq_true rfl) (Nat.le_of_ble_eq_true rfl) (Nat.le_of_ble_eq_true rfl) (q_join2 hA hC hU hP hi hS hcv1 hcd) (fun r M2 z2 hq => ?_) (fun E M2 z2 hq => by obtain ⟨_, _, _, _, _, _, _, hr, -⟩ := hq; cases hr)
  obtain ⟨bq, O', R', C', rc', ch', u', hr, hA1, hC1, hU1, hP1, hcn, hO1, rfl⟩ := hq
  cases hr
  refine g_if_eqB (tgt := 64) dX0_countJoining_57 (by decide)  (fun h57 => ?_) (fun h57 => ?_)
  · rw [h57, if_neg (by decide)] at hcn
    refine g_iconst (v := nI 0) dX0_countJoining_64 rfl ?_
    refine g_isubN dX0_countJoining_65 (by omega) ?_
    refine g_istore_3 rfl dX0_countJoining_66 ?_
    have hcn2 : ∀ e, cnt (rtB (clS p c) ch) i + 1 - e = cnt (rtB (clS p c) ch') (i + 1) → WP mX0_countJoining 67 [some (.ref ab), some (.ref cb), some (.int (nI c)), some (.int (nI (cnt (rtB (clS p c) ch) i + 1 - e))), some (.int (nI i))] [] M2 _ 0 0 Φ := fun e he => by
      rw [he]
      exact q_cj67 hcv hcd hA1 hC1 (hO.tr hO1) hi hS hU1 hP1 hk
    exact hcn2 _ (by first | (have hcn : cnt (rtB (clS p c) ch') (i + 1) + 0 = cnt (rtB (clS p c) ch) (i + 1) := hcn; omega) | (have hcn : cnt (rtB (clS p c) ch') (i + 1) + 1 = cnt (rtB (clS p c) ch) (i + 1) := hcn; omega))
  · rw [h57, if_pos rfl] at hcn
    refine g_iconst (v := nI 1) dX0_countJoining_60 rfl ?_
    refine g_goto (tgt := 65) dX0_countJoining_61 (by decide) ?_
    refine g_isubN dX0_countJoining_65 (by omega) ?_
    refine g_istore_3 rfl dX0_countJoining_66 ?_
    have hcn2 : ∀ e, cnt (rtB (clS p c) ch) i + 1 - e = cnt (rtB (clS p c) ch') (i + 1) → WP mX0_countJoining 67 [some (.ref ab), some (.ref cb), some (.int (nI c)), some (.int (nI (cnt (rtB (clS p c) ch) i + 1 - e))), some (.int (nI i))] [] M2 _ 0 0 Φ := fun e he => by
      rw [he]
      exact q_cj67 hcv hcd hA1 hC1 (hO.tr hO1) hi hS hU1 hP1 hk
    exact hcn2 _ (by first | (have hcn : cnt (rtB (clS p c) ch') (i + 1) + 0 = cnt (rtB (clS p c) ch) (i + 1) := hcn; omega) | (have hcn : cnt (rtB (clS p c) ch') (i + 1) + 1 = cnt (rtB (clS p c) ch) (i + 1) := hcn; omega))
theorem q_cj27 (hcv : CanvasAt M0 cb p q ht) (hcd : cb + 4 ≤ ab ∨ ab + 4 ≤ cb) : ∀ d i {M : Hp} {O R C : Row} {rc : Int32} {ch : Nat → Nat} {u : Nat}, i + d = 144 → ArAt M ab O R rc C → OC C ch → Out M0 M ab 4 → UF (clS p c) ch u i → PD (clS p c) ch i 2 → WP mX0_countJoining 27 [some (.ref ab), some (.ref cb), some (.int (nI c)), some (.int (nI (cnt (rtB (clS p c) ch) i))), some (.int (nI i))] [] M z 0 0 (ACQ M0 ab (nArea (clS p c)) z) := by
  intro d
  induction d with
  | zero =>
    intro i M O R C rc ch u hi hA hC hO hU hP
    obtain rfl : i = 144 := by omega
    refine g_iload_4 dX0_countJoining_27 ?_
    refine g_sipush (v := nI 144) dX0_countJoining_29 rfl ?_
    refine g_icmp_geN (tgt := 92) dX0_countJoining_32 (by decide) (by omega) (by omega) (fun _ => ?_) (fun h32 => absurd h32 (by omega))
    refine g_iload_3 dX0_countJoining_92 ?_
    exact g_ireturn rfl rfl dX0_countJoining_93 (Nat.le_of_ble_eq_true rfl) (Nat.le_of_ble_eq_true rfl) ⟨by rw [uf_area hU hP], ⟨O, R, rc, C, hA⟩, hO, rfl⟩
  | succ d ih =>
    intro i M O R C rc ch u hi hA hC hO hU hP
    have hcv1 : CanvasAt M cb p q ht := hcv.keep (fun b b1 b2 => hO b (by omega))
    refine g_iload_4 dX0_countJoining_27 ?_
    refine g_sipush (v := nI 144) dX0_countJoining_29 rfl ?_
    refine g_icmp_geN (tgt := 92) dX0_countJoining_32 (by decide) (by omega) (by omega) (fun h32 => absurd h32 (by omega)) (fun _ => ?_)
    refine g_aload_1 dX0_countJoining_35 ?_
    refine g_iload_4 dX0_countJoining_36 ?_
    refine g_v1_1 dX0_countJoining_38 (vX0_22 rfl) rfl hcv1.1 (Nat.le_of_ble_eq_true rfl) ⟨rfl, rfl⟩ (Nat.le_of_ble_eq_true rfl) (Nat.le_of_ble_eq_true rfl) (c_planAt hcv1 (by omega)) ?_
    refine g_iload_2 dX0_countJoining_41 ?_
    refine g_icmp_ne (tgt := 86) dX0_countJoining_42 (by decide)  (fun h42 => ?_) (fun h42 => ?_)
    · refine g_iincN_4 (q := 1) rfl dX0_countJoining_86 rfl ?_
      refine g_goto (tgt := 27) dX0_countJoining_89 (by decide) ?_
      have hSf : clS p c i = false := decide_eq_false h42
      have e : cnt (rtB (clS p c) ch) (i + 1) = cnt (rtB (clS p c) ch) i := cnt_f (P := rtB (clS p c) ch) (by simp [rtB, hSf])
      rw [← e]
      exact ih (i + 1) (by omega) hA hC hO (hU.next (by omega)) (hP.none hSf)
    · exact q_cj45 hcv hcd hA hC hO (by omega) h42 hU hP (fun M O R C rc ch u hA hC hO hU hP => ih (i + 1) (by omega) hA hC hO hU hP)
theorem q_countJoining (hcv : CanvasAt M cb p q ht) (hcd : cb + 4 ≤ ab ∨ ab + 4 ≤ cb) (hA : ArAt M ab O R rc C) : Runs mX0_countJoining [.ref ab, .ref cb, .int (nI c)] M z (ACQ M ab (nArea (clS p c)) z) := by
  refine runs_of plX0 rfl (Nat.le_of_ble_eq_true rfl) ?_
  show WP mX0_countJoining 0 [some (.ref ab), some (.ref cb), some (.int (nI c)), none, none] [] M z 0 0 _
  refine g_iconst (v := nI 0) dX0_countJoining_0 rfl ?_
  refine g_istore_3 rfl dX0_countJoining_1 ?_
  refine q_cj2 (O := O) (R := R) (rc := rc) (C := C) (fun M1 hA1 hO1 => ?_) 144 0 rfl (by rw [show iniC C 0 = C from by funext k; exact if_neg (by omega)]; exact hA) Out.rf
  refine g_iconst (v := nI 0) dX0_countJoining_22 rfl ?_
  refine g_istore_3 rfl dX0_countJoining_23 ?_
  refine g_iconst (v := nI 0) dX0_countJoining_24 rfl ?_
  refine g_istore_4 rfl dX0_countJoining_25 ?_
  exact q_cj27 hcv hcd 144 0 (ch := fun c => c) rfl hA1 (fun c hc => if_pos hc) hO1 UF.init (fun x h y a => by omega)
end P62
