section P42
variable {M M0 : Hp} {z b c j i n len p r : Nat} {f g : Row} {x y w v G : Int32} {I : Row} {A : Nat → Row} {gd bq ok : Bool} {Φ : GR → Hp → Nat → Prop}
theorem m_signT (hA : MAt M b I A) (hi : i < 120) : Runs mX8_sign [.ref b, .ref r, .int (nI 4), .int (nI i)] M z (gD (some (.int (A 12 i))) M z) := by
  refine runs_of plX8 rfl (Nat.le_of_ble_eq_true rfl) ?_
  show WP mX8_sign 0 [some (.ref b), some (.ref r), some (.int (nI 4)), some (.int (nI i))] [] M z 0 0 _
  refine g_iload_2 dX8_sign_0 ?_
  refine g_iconst (v := nI 4) dX8_sign_1 rfl ?_
  refine g_icmp_neN (tgt := 14) dX8_sign_2 (by decide) (by omega) (by omega) (fun h2 => absurd rfl h2) (fun _ => ?_)
  refine g_aload_0 dX8_sign_5 ?_
  refine g_get dX8_sign_6 (fX8_44 rfl) hA.1 rfl ?_
  refine g_iload_3 dX8_sign_9 ?_
  refine g_ialdN dX8_sign_10 hA.2.2.2.2.2.2.2.2.2.2.2.2 (by omega) (by decide) ?_
  refine g_goto (tgt := 26) dX8_sign_11 (by decide) ?_
  exact g_ireturn rfl rfl dX8_sign_26 (Nat.le_of_ble_eq_true rfl) (Nat.le_of_ble_eq_true rfl) (gDi rfl)
theorem m_signM (hA : MAt M b I A) (hr : RowAt M r f) (hn : n < 4) (hi : i < 120) : Runs mX8_sign [.ref b, .ref r, .int (nI n), .int (nI i)] M z (gD (some (.int (f (467 + 120 * n + i)))) M z) := by
  refine runs_of plX8 rfl (Nat.le_of_ble_eq_true rfl) ?_
  show WP mX8_sign 0 [some (.ref b), some (.ref r), some (.int (nI n)), some (.int (nI i))] [] M z 0 0 _
  refine g_iload_2 dX8_sign_0 ?_
  refine g_iconst (v := nI 4) dX8_sign_1 rfl ?_
  refine g_icmp_neN (tgt := 14) dX8_sign_2 (by decide) (by omega) (by omega) (fun _ => ?_) (fun h2 => absurd h2 (by omega))
  refine g_aload_1 dX8_sign_14 ?_
  refine g_sipush (v := nI 467) dX8_sign_15 rfl ?_
  refine g_bipush (v := nI 120) dX8_sign_18 rfl ?_
  refine g_iload_2 dX8_sign_20 ?_
  refine g_imulN dX8_sign_21 ?_
  refine g_iaddN dX8_sign_22 ?_
  refine g_iload_3 dX8_sign_23 ?_
  refine g_iaddN dX8_sign_24 ?_
  refine g_ialdN dX8_sign_25 hr (by omega) (by decide) ?_
  exact g_ireturn rfl rfl dX8_sign_26 (Nat.le_of_ble_eq_true rfl) (Nat.le_of_ble_eq_true rfl) (gDi rfl)
theorem m_failst (hA : MAt M b I A) : Runs mX8_fails [.ref b, .int (bI true)] M z (MMut none M b (upd I 10 (I 10 + nI 1)) A z) := by
  have hao := hA.1
  refine runs_of plX8 rfl (Nat.le_of_ble_eq_true rfl) ?_
  show WP mX8_fails 0 [some (.ref b), some (.int (bI true))] [] M z 0 0 _
  refine g_aload_0 dX8_fails_0 ?_
  refine g_dup dX8_fails_1 rfl ?_
  refine g_get dX8_fails_2 (fX8_105 rfl) hao rfl ?_
  refine g_iload_1 dX8_fails_5 ?_
  refine g_if_eqB (tgt := 13) dX8_fails_6 (by decide)  (fun h6 => absurd h6 (by decide)) (fun _ => ?_)
  refine g_iconst (v := nI 1) dX8_fails_9 rfl ?_
  refine g_goto (tgt := 14) dX8_fails_10 (by decide) ?_
  refine g_iadd dX8_fails_14 ?_
  refine g_putI10 dX8_fails_15 (fX8_105 rfl) hA (fun M1 hA1 n1 => ?_)
  have hao1 := hA1.1
  exact g_return rfl dX8_fails_18 (Nat.le_of_ble_eq_true rfl) (Nat.le_of_ble_eq_true rfl) ⟨rfl, hA1, fun q hq => n1 q (by omega), rfl⟩
theorem m_failsf (hA : MAt M b I A) : Runs mX8_fails [.ref b, .int (bI false)] M z (MMut none M b (upd I 10 (I 10 + nI 0)) A z) := by
  have hao := hA.1
  refine runs_of plX8 rfl (Nat.le_of_ble_eq_true rfl) ?_
  show WP mX8_fails 0 [some (.ref b), some (.int (bI false))] [] M z 0 0 _
  refine g_aload_0 dX8_fails_0 ?_
  refine g_dup dX8_fails_1 rfl ?_
  refine g_get dX8_fails_2 (fX8_105 rfl) hao rfl ?_
  refine g_iload_1 dX8_fails_5 ?_
  refine g_if_eqB (tgt := 13) dX8_fails_6 (by decide)  (fun _ => ?_) (fun h6 => absurd h6 (by decide))
  refine g_iconst (v := nI 0) dX8_fails_13 rfl ?_
  refine g_iadd dX8_fails_14 ?_
  refine g_putI10 dX8_fails_15 (fX8_105 rfl) hA (fun M1 hA1 n1 => ?_)
  have hao1 := hA1.1
  exact g_return rfl dX8_fails_18 (Nat.le_of_ble_eq_true rfl) (Nat.le_of_ble_eq_true rfl) ⟨rfl, hA1, fun q hq => n1 q (by omega), rfl⟩
theorem m_fails (hA : MAt M b I A) : Runs mX8_fails [.ref b, .int (bI bq)] M z (MMut none M b (upd I 10 (I 10 + (if bq = true then nI 1 else nI 0))) A z) := by
  cases bq with
  | true => exact m_failst hA
  | false => exact m_failsf hA
theorem m_push (hA : MAt M b I A) (hd : I 9 = nI n) (hd9 : n < 24) : Runs mX8_push [.ref b, .int x, .int y, .int w, .int v] M z (fun r M' z' => r = .inl none ∧ (∃ A', MAt M' b (upd I 9 (nI (n + 1))) A' ∧ A' 4 = upd (A 4) n x ∧ A' 5 = upd (A 5) n y ∧ A' 6 = upd (A 6) n y ∧ A' 7 = upd (A 7) n w ∧ A' 8 = upd (A 8) n v ∧ ∀ k, k ≠ 4 → k ≠ 5 → k ≠ 6 → k ≠ 7 → k ≠ 8 → A' k = A k) ∧ Out M M' b 13 ∧ z' = z) := by
  have hO : Out M M b 13 := Out.rf
  refine runs_of plX8 rfl (Nat.le_of_ble_eq_true rfl) ?_
  show WP mX8_push 0 [some (.ref b), some (.int x), some (.int y), some (.int w), some (.int v)] [] M z 0 0 _
  refine g_aload_0 dX8_push_0 ?_
  refine g_get dX8_push_1 (fX8_19 rfl) hA.1 rfl ?_
  refine g_aload_0 dX8_push_4 ?_
  refine g_get dX8_push_5 (fX8_102 rfl) hA.1 rfl ?_
  rw [hd]
  refine g_iload_1 dX8_push_8 ?_
  refine g_iastN dX8_push_9 hA.2.2.2.2.1 hd9 (by decide) ?_
  have hO := hO.tr (Out.put (by omega) (by omega) : Out _ (hpu _ (b + 4) (aI 24 (upd (A 4) n x))) b 13)
  have hA := hA.a4 (g := upd (A 4) n x)
  refine g_aload_0 dX8_push_10 ?_
  refine g_get dX8_push_11 (fX8_22 rfl) hA.1 rfl ?_
  refine g_aload_0 dX8_push_14 ?_
  refine g_get dX8_push_15 (fX8_102 rfl) hA.1 rfl ?_
  rw [hd]
  refine g_iload_2 dX8_push_18 ?_
  refine g_iastN dX8_push_19 hA.2.2.2.2.2.1 hd9 (by decide) ?_
  have hO := hO.tr (Out.put (by omega) (by omega) : Out _ (hpu _ (b + 5) (aI 24 (upd ((stg A 4 (upd (A 4) n x)) 5) n y))) b 13)
  have hA := hA.a5 (g := upd ((stg A 4 (upd (A 4) n x)) 5) n y)
  refine g_aload_0 dX8_push_20 ?_
  refine g_get dX8_push_21 (fX8_25 rfl) hA.1 rfl ?_
  refine g_aload_0 dX8_push_24 ?_
  refine g_get dX8_push_25 (fX8_102 rfl) hA.1 rfl ?_
  rw [hd]
  refine g_iload_2 dX8_push_28 ?_
  refine g_iastN dX8_push_29 hA.2.2.2.2.2.2.1 hd9 (by decide) ?_
  have hO := hO.tr (Out.put (by omega) (by omega) : Out _ (hpu _ (b + 6) (aI 24 (upd ((stg (stg A 4 (upd (A 4) n x)) 5 (upd ((stg A 4 (upd (A 4) n x)) 5) n y)) 6) n y))) b 13)
  have hA := hA.a6 (g := upd ((stg (stg A 4 (upd (A 4) n x)) 5 (upd ((stg A 4 (upd (A 4) n x)) 5) n y)) 6) n y)
  refine g_aload_0 dX8_push_30 ?_
  refine g_get dX8_push_31 (fX8_28 rfl) hA.1 rfl ?_
  refine g_aload_0 dX8_push_34 ?_
  refine g_get dX8_push_35 (fX8_102 rfl) hA.1 rfl ?_
  rw [hd]
  refine g_iload_3 dX8_push_38 ?_
  refine g_iastN dX8_push_39 hA.2.2.2.2.2.2.2.1 hd9 (by decide) ?_
  have hO := hO.tr (Out.put (by omega) (by omega) : Out _ (hpu _ (b + 7) (aI 24 (upd ((stg (stg (stg A 4 (upd (A 4) n x)) 5 (upd ((stg A 4 (upd (A 4) n x)) 5) n y)) 6 (upd ((stg (stg A 4 (upd (A 4) n x)) 5 (upd ((stg A 4 (upd (A 4) n x)) 5) n y)) 6) n y)) 7) n w))) b 13)
  have hA := hA.a7 (g := upd ((stg (stg (stg A 4 (upd (A 4) n x)) 5 (upd ((stg A 4 (upd (A 4) n x)) 5) n y)) 6 (upd ((stg (stg A 4 (upd (A 4) n x)) 5 (upd ((stg A 4 (upd (A 4) n x)) 5) n y)) 6) n y)) 7) n w)
  refine g_aload_0 dX8_push_40 ?_
  refine g_get dX8_push_41 (fX8_31 rfl) hA.1 rfl ?_
  refine g_aload_0 dX8_push_44 ?_
  refine g_get dX8_push_45 (fX8_102 rfl) hA.1 rfl ?_
  rw [hd]
  refine g_iload_4 dX8_push_48 ?_
  refine g_iastN dX8_push_50 hA.2.2.2.2.2.2.2.2.1 hd9 (by decide) ?_
  have hO := hO.tr (Out.put (by omega) (by omega) : Out _ (hpu _ (b + 8) (aI 24 (upd ((stg (stg (stg (stg A 4 (upd (A 4) n x)) 5 (upd ((stg A 4 (upd (A 4) n x)) 5) n y)) 6 (upd ((stg (stg A 4 (upd (A 4) n x)) 5 (upd ((stg A 4 (upd (A 4) n x)) 5) n y)) 6) n y)) 7 (upd ((stg (stg (stg A 4 (upd (A 4) n x)) 5 (upd ((stg A 4 (upd (A 4) n x)) 5) n y)) 6 (upd ((stg (stg A 4 (upd (A 4) n x)) 5 (upd ((stg A 4 (upd (A 4) n x)) 5) n y)) 6) n y)) 7) n w)) 8) n v))) b 13)
  have hA := hA.a8 (g := upd ((stg (stg (stg (stg A 4 (upd (A 4) n x)) 5 (upd ((stg A 4 (upd (A 4) n x)) 5) n y)) 6 (upd ((stg (stg A 4 (upd (A 4) n x)) 5 (upd ((stg A 4 (upd (A 4) n x)) 5) n y)) 6) n y)) 7 (upd ((stg (stg (stg A 4 (upd (A 4) n x)) 5 (upd ((stg A 4 (upd (A 4) n x)) 5) n y)) 6 (upd ((stg (stg A 4 (upd (A 4) n x)) 5 (upd ((stg A 4 (upd (A 4) n x)) 5) n y)) 6) n y)) 7) n w)) 8) n v)
  refine g_aload_0 dX8_push_51 ?_
  refine g_dup dX8_push_52 rfl ?_
  refine g_get dX8_push_53 (fX8_102 rfl) hA.1 rfl ?_
  rw [hd]
  refine g_iconst (v := nI 1) dX8_push_56 rfl ?_
  refine g_iaddN dX8_push_57 ?_
  refine g_putI9 dX8_push_58 (fX8_102 rfl) hA (fun M1 hA1 n1 => ?_)
  have hao1 := hA1.1
  exact g_return rfl dX8_push_61 (Nat.le_of_ble_eq_true rfl) (Nat.le_of_ble_eq_true rfl) ⟨rfl, ⟨_, hA1, rfl, rfl, rfl, rfl, rfl, fun k k4 k5 k6 k7 k8 => by rw [stg_ne k8, stg_ne k7, stg_ne k6, stg_ne k5, stg_ne k4]⟩, hO.tr (fun q hq => n1 q (by omega)), rfl⟩
end P42
