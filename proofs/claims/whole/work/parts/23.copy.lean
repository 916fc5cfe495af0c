section P23
variable {M M0 : Hp} {z a b c j : Nat} {f : Row} {x : Int32} {R : Nat → Row} {ln : Nat → Nat} {sg : Nat → Nat → Nat} {Φ : GR → Hp → Nat → Prop}
/-! final fields: no nest link of the owner's class at that index -/
def gfn : Cond → Option (String × Nat) := fun w => match w with
  | .fieldLinkNest c i _ _ _ _ => some (c, i)
  | _ => none
def gfnL : List (String × Nat) := [("RugPunch", 55), ("RugPunch$Player", 42), ("RugPunch$Rug", 65), ("RugPunch", 78), ("RugPunch", 147), ("RugPunch", 124), ("RugPunch", 127), ("RugPunch", 130), ("RugPunch$Player", 83), ("RugPunch", 133), ("RugPunch", 136), ("RugPunch", 174), ("RugPunch", 277)]
theorem gfn_eq : tables_1.filterMap gfn = gfnL := by decide +kernel
theorem gNN_of {cls : String} {idx : Nat} (h : (cls, idx) ∉ gfnL) : ∀ host C n d, Cond.fieldLinkNest cls idx C n d host ∉ gN := by
  intro host C n d hm
  refine h ?_
  rw [← gfn_eq]
  exact List.mem_filterMap.mpr ⟨_, (List.mem_filter.mp hm).1, rfl⟩
/-! copies -/
def mx {α : Type} (n : Nat) (f g : Nat → α) : Nat → α := fun i => if i < n then f i else g i
theorem mx_lt {α : Type} {n i : Nat} {f g : Nat → α} (h : i < n) : mx n f g i = f i := if_pos h
theorem cpy_mx {f g : Nat → Int32} {n : Nat} : va_cpy f g 0 0 n = mx n f g := by
  funext i
  simp [va_cpy, mx]
theorem g_copyI {m : GM} {pc k n idx N a0 : Nat} {L : List (Option Value)} {rest : List Value} {f g : Row} (d : dc m pc (.invokestatic idx) 3) (lk : gAC m idx) (ho0 : M a0 = some (aI N f)) (ho : M a = some (aI N g)) (hN : N < 2 ^ 31) (hf : 1 ≤ gfr m) (hl : (rest.map fun v => v.category).sum + 18 ≤ glo m)
    (h : ∀ M1, M1 a = some (aI N (mx N f g)) → (∀ b, b ≠ a → M1 b = M b) → WP m (pc + 3) L rest M1 z k n Φ) : WP m pc L (.int (nI N) :: .int (nI 0) :: .ref a :: .int (nI 0) :: .ref a0 :: rest) M z k n Φ := by
  refine g_copy (kd := 0) (sp := 0) (dp := 0) (by decide) d lk ho0 ho (by omega) (by omega) ⟨hN, hN⟩ (fun i hi => rfl) hf hl ?_
  rw [cpy_mx]
  exact h _ (hpu_same _ _ _) (fun b hb => hpu_ne _ _ hb)
theorem c_canvasCopy {c1 c2 : Nat} {p1 q1 h1' p2 q2 h2' : Row} (h1 : CanvasAt M c1 p1 q1 h1') (h2 : CanvasAt M c2 p2 q2 h2') (hd : c1 + 4 ≤ c2 ∨ c2 + 4 ≤ c1) : Runs mX1_copyFrom [.ref c1, .ref c2] M z (fun r M' z' => r = .inl none ∧ CanvasAt M' c1 (mx 144 p2 p1) (mx 144 q2 q1) (mx 144 h2' h1') ∧ Out M M' c1 4 ∧ z' = z) := by
  obtain ⟨hD0, hD1, hD2, hD3⟩ := h1
  obtain ⟨hS0, hS1, hS2, hS3⟩ := h2
  refine runs_of plX1 rfl (Nat.le_of_ble_eq_true rfl) ?_
  show WP mX1_copyFrom 0 [some (.ref c1), some (.ref c2)] [] M z 0 0 _
  refine g_aload_1 dX1_copyFrom_0 ?_
  refine g_get dX1_copyFrom_1 (fX1_9 rfl) hS0 rfl ?_
  refine g_iconst (v := nI 0) dX1_copyFrom_4 rfl ?_
  refine g_aload_0 dX1_copyFrom_5 ?_
  refine g_get dX1_copyFrom_6 (fX1_9 rfl) hD0 rfl ?_
  refine g_iconst (v := nI 0) dX1_copyFrom_9 rfl ?_
  refine g_sipush (v := nI 144) dX1_copyFrom_10 rfl ?_
  refine g_copyI dX1_copyFrom_13 (aX1_21 rfl) hS1 hD1 (by decide) (Nat.le_of_ble_eq_true rfl) (Nat.le_of_ble_eq_true rfl) (fun M1 hD1 n1 => ?_)
  have hD0 := (n1 _ (by omega)).trans hD0
  have hD2 := (n1 _ (by omega)).trans hD2
  have hD3 := (n1 _ (by omega)).trans hD3
  have hS0 := (n1 _ (by omega)).trans hS0
  have hS1 := (n1 _ (by omega)).trans hS1
  have hS2 := (n1 _ (by omega)).trans hS2
  have hS3 := (n1 _ (by omega)).trans hS3
  refine g_aload_1 dX1_copyFrom_16 ?_
  refine g_get dX1_copyFrom_17 (fX1_15 rfl) hS0 rfl ?_
  refine g_iconst (v := nI 0) dX1_copyFrom_20 rfl ?_
  refine g_aload_0 dX1_copyFrom_21 ?_
  refine g_get dX1_copyFrom_22 (fX1_15 rfl) hD0 rfl ?_
  refine g_iconst (v := nI 0) dX1_copyFrom_25 rfl ?_
  refine g_sipush (v := nI 144) dX1_copyFrom_26 rfl ?_
  refine g_copyI dX1_copyFrom_29 (aX1_21 rfl) hS2 hD2 (by decide) (Nat.le_of_ble_eq_true rfl) (Nat.le_of_ble_eq_true rfl) (fun M2 hD2 n2 => ?_)
  have hD0 := (n2 _ (by omega)).trans hD0
  have hD1 := (n2 _ (by omega)).trans hD1
  have hD3 := (n2 _ (by omega)).trans hD3
  have hS0 := (n2 _ (by omega)).trans hS0
  have hS1 := (n2 _ (by omega)).trans hS1
  have hS2 := (n2 _ (by omega)).trans hS2
  have hS3 := (n2 _ (by omega)).trans hS3
  refine g_aload_1 dX1_copyFrom_32 ?_
  refine g_get dX1_copyFrom_33 (fX1_18 rfl) hS0 rfl ?_
  refine g_iconst (v := nI 0) dX1_copyFrom_36 rfl ?_
  refine g_aload_0 dX1_copyFrom_37 ?_
  refine g_get dX1_copyFrom_38 (fX1_18 rfl) hD0 rfl ?_
  refine g_iconst (v := nI 0) dX1_copyFrom_41 rfl ?_
  refine g_sipush (v := nI 144) dX1_copyFrom_42 rfl ?_
  refine g_copyI dX1_copyFrom_45 (aX1_21 rfl) hS3 hD3 (by decide) (Nat.le_of_ble_eq_true rfl) (Nat.le_of_ble_eq_true rfl) (fun M3 hD3 n3 => ?_)
  have hD0 := (n3 _ (by omega)).trans hD0
  have hD1 := (n3 _ (by omega)).trans hD1
  have hD2 := (n3 _ (by omega)).trans hD2
  have hS0 := (n3 _ (by omega)).trans hS0
  have hS1 := (n3 _ (by omega)).trans hS1
  have hS2 := (n3 _ (by omega)).trans hS2
  have hS3 := (n3 _ (by omega)).trans hS3
  exact g_return rfl dX1_copyFrom_48 (Nat.le_of_ble_eq_true rfl) (Nat.le_of_ble_eq_true rfl) ⟨rfl, ⟨hD0, hD1, hD2, hD3⟩, fun b hb => ((n3 b (by omega)).trans (n2 b (by omega))).trans (n1 b (by omega)), rfl⟩
theorem c_yarnCopy {c1 c2 : Nat} {k1 p1 fl1 e1 w1 k2 p2 fl2 e2 w2 : Row} (h1 : YarnAt M c1 k1 p1 fl1 e1 w1) (h2 : YarnAt M c2 k2 p2 fl2 e2 w2) (hd : c1 + 6 ≤ c2 ∨ c2 + 6 ≤ c1) : Runs mX6_copyFrom [.ref c1, .ref c2] M z (fun r M' z' => r = .inl none ∧ YarnAt M' c1 (mx 5 k2 k1) (mx 5 p2 p1) (mx 5 fl2 fl1) (mx 5 e2 e1) (mx 5 w2 w1) ∧ Out M M' c1 6 ∧ z' = z) := by
  obtain ⟨hD0, hD1, hD2, hD3, hD4, hD5⟩ := h1
  obtain ⟨hS0, hS1, hS2, hS3, hS4, hS5⟩ := h2
  refine runs_of plX6 rfl (Nat.le_of_ble_eq_true rfl) ?_
  show WP mX6_copyFrom 0 [some (.ref c1), some (.ref c2)] [] M z 0 0 _
  refine g_aload_1 dX6_copyFrom_0 ?_
  refine g_get dX6_copyFrom_1 (fX6_9 rfl) hS0 rfl ?_
  refine g_iconst (v := nI 0) dX6_copyFrom_4 rfl ?_
  refine g_aload_0 dX6_copyFrom_5 ?_
  refine g_get dX6_copyFrom_6 (fX6_9 rfl) hD0 rfl ?_
  refine g_iconst (v := nI 0) dX6_copyFrom_9 rfl ?_
  refine g_iconst (v := nI 5) dX6_copyFrom_10 rfl ?_
  refine g_copyI dX6_copyFrom_11 (aX6_27 rfl) hS1 hD1 (by decide) (Nat.le_of_ble_eq_true rfl) (Nat.le_of_ble_eq_true rfl) (fun M1 hD1 n1 => ?_)
  have hD0 := (n1 _ (by omega)).trans hD0
  have hD2 := (n1 _ (by omega)).trans hD2
  have hD3 := (n1 _ (by omega)).trans hD3
  have hD4 := (n1 _ (by omega)).trans hD4
  have hD5 := (n1 _ (by omega)).trans hD5
  have hS0 := (n1 _ (by omega)).trans hS0
  have hS1 := (n1 _ (by omega)).trans hS1
  have hS2 := (n1 _ (by omega)).trans hS2
  have hS3 := (n1 _ (by omega)).trans hS3
  have hS4 := (n1 _ (by omega)).trans hS4
  have hS5 := (n1 _ (by omega)).trans hS5
  refine g_aload_1 dX6_copyFrom_14 ?_
  refine g_get dX6_copyFrom_15 (fX6_15 rfl) hS0 rfl ?_
  refine g_iconst (v := nI 0) dX6_copyFrom_18 rfl ?_
  refine g_aload_0 dX6_copyFrom_19 ?_
  refine g_get dX6_copyFrom_20 (fX6_15 rfl) hD0 rfl ?_
  refine g_iconst (v := nI 0) dX6_copyFrom_23 rfl ?_
  refine g_iconst (v := nI 5) dX6_copyFrom_24 rfl ?_
  refine g_copyI dX6_copyFrom_25 (aX6_27 rfl) hS2 hD2 (by decide) (Nat.le_of_ble_eq_true rfl) (Nat.le_of_ble_eq_true rfl) (fun M2 hD2 n2 => ?_)
  have hD0 := (n2 _ (by omega)).trans hD0
  have hD1 := (n2 _ (by omega)).trans hD1
  have hD3 := (n2 _ (by omega)).trans hD3
  have hD4 := (n2 _ (by omega)).trans hD4
  have hD5 := (n2 _ (by omega)).trans hD5
  have hS0 := (n2 _ (by omega)).trans hS0
  have hS1 := (n2 _ (by omega)).trans hS1
  have hS2 := (n2 _ (by omega)).trans hS2
  have hS3 := (n2 _ (by omega)).trans hS3
  have hS4 := (n2 _ (by omega)).trans hS4
  have hS5 := (n2 _ (by omega)).trans hS5
  refine g_aload_1 dX6_copyFrom_28 ?_
  refine g_get dX6_copyFrom_29 (fX6_18 rfl) hS0 rfl ?_
  refine g_iconst (v := nI 0) dX6_copyFrom_32 rfl ?_
  refine g_aload_0 dX6_copyFrom_33 ?_
  refine g_get dX6_copyFrom_34 (fX6_18 rfl) hD0 rfl ?_
  refine g_iconst (v := nI 0) dX6_copyFrom_37 rfl ?_
  refine g_iconst (v := nI 5) dX6_copyFrom_38 rfl ?_
  refine g_copyI dX6_copyFrom_39 (aX6_27 rfl) hS3 hD3 (by decide) (Nat.le_of_ble_eq_true rfl) (Nat.le_of_ble_eq_true rfl) (fun M3 hD3 n3 => ?_)
  have hD0 := (n3 _ (by omega)).trans hD0
  have hD1 := (n3 _ (by omega)).trans hD1
  have hD2 := (n3 _ (by omega)).trans hD2
  have hD4 := (n3 _ (by omega)).trans hD4
  have hD5 := (n3 _ (by omega)).trans hD5
  have hS0 := (n3 _ (by omega)).trans hS0
  have hS1 := (n3 _ (by omega)).trans hS1
  have hS2 := (n3 _ (by omega)).trans hS2
  have hS3 := (n3 _ (by omega)).trans hS3
  have hS4 := (n3 _ (by omega)).trans hS4
  have hS5 := (n3 _ (by omega)).trans hS5
  refine g_aload_1 dX6_copyFrom_42 ?_
  refine g_get dX6_copyFrom_43 (fX6_21 rfl) hS0 rfl ?_
  refine g_iconst (v := nI 0) dX6_copyFrom_46 rfl ?_
  refine g_aload_0 dX6_copyFrom_47 ?_
  refine g_get dX6_copyFrom_48 (fX6_21 rfl) hD0 rfl ?_
  refine g_iconst (v := nI 0) dX6_copyFrom_51 rfl ?_
  refine g_iconst (v := nI 5) dX6_copyFrom_52 rfl ?_
  refine g_copyI dX6_copyFrom_53 (aX6_27 rfl) hS4 hD4 (by decide) (Nat.le_of_ble_eq_true rfl) (Nat.le_of_ble_eq_true rfl) (fun M4 hD4 n4 => ?_)
  have hD0 := (n4 _ (by omega)).trans hD0
  have hD1 := (n4 _ (by omega)).trans hD1
  have hD2 := (n4 _ (by omega)).trans hD2
  have hD3 := (n4 _ (by omega)).trans hD3
  have hD5 := (n4 _ (by omega)).trans hD5
  have hS0 := (n4 _ (by omega)).trans hS0
  have hS1 := (n4 _ (by omega)).trans hS1
  have hS2 := (n4 _ (by omega)).trans hS2
  have hS3 := (n4 _ (by omega)).trans hS3
  have hS4 := (n4 _ (by omega)).trans hS4
  have hS5 := (n4 _ (by omega)).trans hS5
  refine g_aload_1 dX6_copyFrom_56 ?_
  refine g_get dX6_copyFrom_57 (fX6_24 rfl) hS0 rfl ?_
  refine g_iconst (v := nI 0) dX6_copyFrom_60 rfl ?_
  refine g_aload_0 dX6_copyFrom_61 ?_
  refine g_get dX6_copyFrom_62 (fX6_24 rfl) hD0 rfl ?_
  refine g_iconst (v := nI 0) dX6_copyFrom_65 rfl ?_
  refine g_iconst (v := nI 5) dX6_copyFrom_66 rfl ?_
  refine g_copyI dX6_copyFrom_67 (aX6_27 rfl) hS5 hD5 (by decide) (Nat.le_of_ble_eq_true rfl) (Nat.le_of_ble_eq_true rfl) (fun M5 hD5 n5 => ?_)
  have hD0 := (n5 _ (by omega)).trans hD0
  have hD1 := (n5 _ (by omega)).trans hD1
  have hD2 := (n5 _ (by omega)).trans hD2
  have hD3 := (n5 _ (by omega)).trans hD3
  have hD4 := (n5 _ (by omega)).trans hD4
  have hS0 := (n5 _ (by omega)).trans hS0
  have hS1 := (n5 _ (by omega)).trans hS1
  have hS2 := (n5 _ (by omega)).trans hS2
  have hS3 := (n5 _ (by omega)).trans hS3
  have hS4 := (n5 _ (by omega)).trans hS4
  have hS5 := (n5 _ (by omega)).trans hS5
  exact g_return rfl dX6_copyFrom_70 (Nat.le_of_ble_eq_true rfl) (Nat.le_of_ble_eq_true rfl) ⟨rfl, ⟨hD0, hD1, hD2, hD3, hD4, hD5⟩, fun b hb => ((((n5 b (by omega)).trans (n4 b (by omega))).trans (n3 b (by omega))).trans (n2 b (by omega))).trans (n1 b (by omega)), rfl⟩
theorem chr_mx {g1 g2 : Nat → Nat} : mx 120 (fun i => nI (g2 i)) (fun i => nI (g1 i)) = fun i => nI (mx 120 g2 g1 i) := by
  funext i
  simp only [mx]
  split <;> rfl
theorem chars_mx {g1 g2 : Nat → Nat} (h1 : CharsOK g1) (h2 : CharsOK g2) : CharsOK (mx 120 g2 g1) := by
  intro i
  unfold mx
  split
  · exact h2 i
  · exact h1 i
theorem c_scriptCopy {s1 s2 l1 l2 : Nat} {g1 g2 : Nat → Nat} (h1 : ScriptAt M s1 l1 g1) (h2 : ScriptAt M s2 l2 g2) (hg : CharsOK g2) (hd : s1 + 2 ≤ s2 ∨ s2 + 2 ≤ s1) : Runs mX5_copyFrom [.ref s1, .ref s2] M z (fun r M' z' => r = .inl none ∧ ScriptAt M' s1 l2 (mx 120 g2 g1) ∧ Out M M' s1 2 ∧ z' = z) := by
  obtain ⟨hD0, hD1⟩ := h1
  obtain ⟨hS0, hS1⟩ := h2
  refine runs_of plX5 rfl (Nat.le_of_ble_eq_true rfl) ?_
  show WP mX5_copyFrom 0 [some (.ref s1), some (.ref s2)] [] M z 0 0 _
  refine g_aload_1 dX5_copyFrom_0 ?_
  refine g_get dX5_copyFrom_1 (fX5_9 rfl) hS0 rfl ?_
  refine g_iconst (v := nI 0) dX5_copyFrom_4 rfl ?_
  refine g_aload_0 dX5_copyFrom_5 ?_
  refine g_get dX5_copyFrom_6 (fX5_9 rfl) hD0 rfl ?_
  refine g_iconst (v := nI 0) dX5_copyFrom_9 rfl ?_
  refine g_bipush (v := nI 120) dX5_copyFrom_10 rfl ?_
  refine g_copy (kd := 1) (sp := 0) (dp := 0) (by decide) dX5_copyFrom_12 (aX5_19 rfl) hS1 hD1 (by decide) (by decide) ⟨by decide, by decide⟩ (fun i hi => fit_char _ (hg _)) (Nat.le_of_ble_eq_true rfl) (Nat.le_of_ble_eq_true rfl) ?_
  rw [cpy_mx, chr_mx]
  refine g_aload_0 dX5_copyFrom_15 ?_
  refine g_aload_1 dX5_copyFrom_16 ?_
  refine g_get dX5_copyFrom_17 (fX5_15 rfl) ((hpu_ne _ _ (by omega)).trans hS0) rfl ?_
  refine g_put dX5_copyFrom_20 (fX5_15 rfl) ((hpu_ne _ _ (by omega)).trans hD0) rfl rfl (Nat.le_of_ble_eq_true rfl) rfl ?_
  exact g_return rfl dX5_copyFrom_23 (Nat.le_of_ble_eq_true rfl) (Nat.le_of_ble_eq_true rfl) ⟨rfl, ⟨hpu_same _ _ _, (hpu_ne _ _ (by omega)).trans (hpu_same _ _ _)⟩, (Out.put (by omega) (by omega)).tr (Out.put (by omega) (by omega)), rfl⟩
theorem q_keepMotif {s1 s2 l1 l2 : Nat} {g1 g2 : Nat → Nat} {fm : Nat → Option Nat} (hao : M a = some (.inr (4, rugL a R))) (hm : M (a + 11) = some (aS 4 fm)) (hj : j < 4) (hf : fm j = some s1) (h1 : ScriptAt M s1 l1 g1) (h2 : ScriptAt M s2 l2 g2) (hg : CharsOK g2) (hd : s1 + 2 ≤ s2 ∨ s2 + 2 ≤ s1) : Runs mX4_keepMotif [.ref a, .int (nI j), .ref s2] M z (fun r M' z' => r = .inl none ∧ ScriptAt M' s1 l2 (mx 120 g2 g1) ∧ Out M M' s1 2 ∧ z' = z) := by
  have hso := h1.1
  refine runs_of plX4 rfl (Nat.le_of_ble_eq_true rfl) ?_
  show WP mX4_keepMotif 0 [some (.ref a), some (.int (nI j)), some (.ref s2)] [] M z 0 0 _
  refine g_iload_1 dX4_keepMotif_0 ?_
  refine g_if_ltN (tgt := 32) dX4_keepMotif_1 (by decide) (by omega) ?_
  refine g_iload_1 dX4_keepMotif_4 ?_
  refine g_iconst (v := nI 4) dX4_keepMotif_5 rfl ?_
  refine g_icmp_geN (tgt := 32) dX4_keepMotif_6 (by decide) (by omega) (by omega) (fun h6 => absurd h6 (by omega)) (fun _ => ?_)
  refine g_aload_0 dX4_keepMotif_9 ?_
  refine g_get dX4_keepMotif_10 (fX4_27 rfl) hao rfl ?_
  refine g_iload_1 dX4_keepMotif_13 ?_
  refine g_aaldSN dX4_keepMotif_14 hm (by omega) (by decide) (by rw [hf]) ?_
  refine g_ifnull dX4_keepMotif_15 ?_
  refine g_aload_2 dX4_keepMotif_18 ?_
  refine g_ifnull dX4_keepMotif_19 ?_
  refine g_aload_0 dX4_keepMotif_22 ?_
  refine g_get dX4_keepMotif_23 (fX4_27 rfl) hao rfl ?_
  refine g_iload_1 dX4_keepMotif_26 ?_
  refine g_aaldSN dX4_keepMotif_27 hm (by omega) (by decide) (by rw [hf]) ?_
  refine g_aload_2 dX4_keepMotif_28 ?_
  refine g_v1 dX4_keepMotif_29 (vX4_62 rfl) rfl hso (Nat.le_of_ble_eq_true rfl) (Nat.le_of_ble_eq_true rfl) (Nat.le_of_ble_eq_true rfl) (c_scriptCopy h1 h2 hg hd) (fun r M2 z2 hq => ?_) (fun E M2 z2 hq => by obtain ⟨hq, -⟩ := hq; cases hq)
  obtain ⟨hr, hq1, hq2, rfl⟩ := hq
  cases hr
  exact g_return rfl dX4_keepMotif_32 (Nat.le_of_ble_eq_true rfl) (Nat.le_of_ble_eq_true rfl) ⟨rfl, hq1, hq2, rfl⟩
def mkR (p q h k t u v w s : Row) : Nat → Row := fun i => match i with
  | 0 => p | 1 => q | 2 => h | 3 => k | 4 => t | 5 => u | 6 => v | 7 => w | _ => s
theorem Rel.cong {R' : Nat → Row} {sg' : Nat → Nat → Nat} (h : Rel R ln sg f) (e0 : ∀ kk, kk < 3 → ∀ i, i < 144 → R' kk i = R kk i) (e1 : ∀ kk, kk < 5 → ∀ c, c < 5 → R' (3 + kk) c = R (3 + kk) c) (e2 : ∀ s, s < 6 → R' 13 s = R 13 s) (e3 : ∀ m, m < 4 → ∀ i, i < 120 → sg' m i = sg m i) (hc : ∀ m, CharsOK (sg' m)) : Rel R' ln sg' f := by
  obtain ⟨h0, h1, h2, ⟨k3, k4, k5, k6, k7⟩, ⟨s0, s1, s2, s3, s4, s5⟩, m1, m2, m3⟩ := h
  refine ⟨fun i hi => (e0 0 (by decide) i hi).trans (h0 i hi), fun i hi => (e0 1 (by decide) i hi).trans (h1 i hi), fun i hi => (e0 2 (by decide) i hi).trans (h2 i hi), ⟨fun c hc => (e1 0 (by decide) c hc).trans (k3 c hc), fun c hc => (e1 1 (by decide) c hc).trans (k4 c hc), fun c hc => (e1 2 (by decide) c hc).trans (k5 c hc), fun c hc => (e1 3 (by decide) c hc).trans (k6 c hc), fun c hc => (e1 4 (by decide) c hc).trans (k7 c hc)⟩,
    ⟨(e2 0 (by decide)).trans s0, (e2 1 (by decide)).trans s1, (e2 2 (by decide)).trans s2, (e2 3 (by decide)).trans s3, (e2 4 (by decide)).trans s4, (e2 5 (by decide)).trans s5⟩, m1, fun m hm i hi => ?_, hc⟩
  rw [e3 m hm i (by have := (m1 m hm).1; omega)]
  exact m2 m hm i hi
theorem MotsAt.scr (h : MotsAt M a ln sg) : ∃ fm : Nat → Option Nat, M (a + 11) = some (aS 4 fm) ∧ (∀ i, i < 4 → fm i = some (a + (12 + 2 * i))) ∧ ∀ i, i < 4 → ScriptAt M (a + (12 + 2 * i)) (ln i) (sg i) := by
  obtain ⟨⟨fm, h1, h2⟩, h3⟩ := h
  exact ⟨fm, h1, h2, h3⟩
theorem ScriptAt.keep {M' : Hp} {s l : Nat} {g : Nat → Nat} (h : ScriptAt M s l g) (hq : ∀ b, s ≤ b → b < s + 2 → M' b = M b) : ScriptAt M' s l g := ⟨(hq _ (by omega) (by omega)).trans h.1, (hq _ (by omega) (by omega)).trans h.2⟩
theorem q_copy_loop {R2 : Nat → Row} {ln2 : Nat → Nat} {sg2 : Nat → Nat → Nat} {fm fb : Nat → Option Nat} (hd : a + 20 ≤ b ∨ b + 20 ≤ a) (hfm : ∀ i, i < 4 → fm i = some (a + (12 + 2 * i))) (hbf : ∀ i, i < 4 → fb i = some (b + (12 + 2 * i))) (hbg : ∀ m, CharsOK (sg2 m)) : ∀ d i (M : Hp), i + d = 4 →
    M a = some (.inr (4, rugL a R)) → M (a + 11) = some (aS 4 fm) → M b = some (.inr (4, rugL b R2)) → M (b + 11) = some (aS 4 fb) → (∀ m, m < i → ScriptAt M (a + (12 + 2 * m)) (ln2 m) (mx 120 (sg2 m) (sg m))) → (∀ m, i ≤ m → m < 4 → ScriptAt M (a + (12 + 2 * m)) (ln m) (sg m)) → (∀ m, m < 4 → ScriptAt M (b + (12 + 2 * m)) (ln2 m) (sg2 m)) → Out M0 M (a + 12) 8 →
    (∀ M', (∀ m, m < 4 → ScriptAt M' (a + (12 + 2 * m)) (ln2 m) (mx 120 (sg2 m) (sg m))) → Out M0 M' (a + 12) 8 → WP mX4_copyFrom 46 [some (.ref a), some (.ref b), some (.int (nI (4)))] [] M' z 0 0 Φ) → WP mX4_copyFrom 24 [some (.ref a), some (.ref b), some (.int (nI (i)))] [] M z 0 0 Φ := by
  intro d
  induction d with
  | zero =>
    intro i M hi hao hm hbo hbm hs hr hbs hO hk
    obtain rfl : i = 4 := by omega
    refine g_iload_2 dX4_copyFrom_24 ?_
    refine g_iconst (v := nI 4) dX4_copyFrom_25 rfl ?_
    refine g_icmp_geN (tgt := 46) dX4_copyFrom_26 (by decide) (by omega) (by omega) (fun _ => ?_) (fun h26 => absurd h26 (by omega))
    exact hk _ (fun m hm9 => hs m hm9) hO
  | succ d ih =>
    intro i M hi hao hm hbo hbm hs hr hbs hO hk
    refine g_iload_2 dX4_copyFrom_24 ?_
    refine g_iconst (v := nI 4) dX4_copyFrom_25 rfl ?_
    refine g_icmp_geN (tgt := 46) dX4_copyFrom_26 (by decide) (by omega) (by omega) (fun h26 => absurd h26 (by omega)) (fun _ => ?_)
    refine g_aload_0 dX4_copyFrom_29 ?_
    refine g_iload_2 dX4_copyFrom_30 ?_
    refine g_aload_1 dX4_copyFrom_31 ?_
    refine g_get dX4_copyFrom_32 (fX4_27 rfl) hbo rfl ?_
    refine g_iload_2 dX4_copyFrom_35 ?_
    refine g_aaldSN dX4_copyFrom_36 hbm (by omega) (by decide) (by rw [hbf i (by omega)]) ?_
    refine g_v2 dX4_copyFrom_37 (vX4_46 rfl) rfl hao (Nat.le_of_ble_eq_true rfl) (Nat.le_of_ble_eq_true rfl) (Nat.le_of_ble_eq_true rfl) (q_keepMotif hao hm (by omega) (hfm i (by omega)) (hr i (by omega) (by omega)) (hbs i (by omega)) (hbg i) (by omega)) (fun r M2 z2 hq => ?_) (fun E M2 z2 hq => by obtain ⟨hq, -⟩ := hq; cases hq)
    obtain ⟨hr9, hq1, hq2, rfl⟩ := hq
    cases hr9
    refine g_iincN_2 (q := 1) rfl dX4_copyFrom_40 rfl ?_
    refine g_goto (tgt := 24) dX4_copyFrom_43 (by decide) ?_
    refine ih (i + 1) _ (by omega) ((hq2 _ (by omega)).trans hao) ((hq2 _ (by omega)).trans hm) ((hq2 _ (by omega)).trans hbo) ((hq2 _ (by omega)).trans hbm) (fun m hm9 => ?_) (fun m hm8 hm9 => ?_) (fun m hm9 => ?_) (hO.tr (fun c hc => hq2 c (by omega))) hk
    · by_cases hmi : m = i
      · subst hmi; exact hq1
      · exact (hs m (by omega)).keep (fun c c1 c2 => hq2 c (by omega))
    · exact (hr m (by omega) hm9).keep (fun c c1 c2 => hq2 c (by omega))
    · exact (hbs m hm9).keep (fun c c1 c2 => hq2 c (by omega))
theorem q_copy_tail {M2 : Hp} {R2 : Nat → Row} {ln2 : Nat → Nat} {sg2 : Nat → Nat → Nat} {f2 : Row} (hd : a + 20 ≤ b ∨ b + 20 ≤ a)
    (hA : RugAt M2 a (mkR (mx 144 (R2 0) (R 0)) (mx 144 (R2 1) (R 1)) (mx 144 (R2 2) (R 2)) (mx 5 (R2 3) (R 3)) (mx 5 (R2 4) (R 4)) (mx 5 (R2 5) (R 5)) (mx 5 (R2 6) (R 6)) (mx 5 (R2 7) (R 7)) (R 13)) ln2 (fun m => mx 120 (sg2 m) (sg m))) (hB : RugAt M2 b R2 ln2 sg2) (hRel : Rel R ln sg f) (hRel2 : Rel R2 ln2 sg2 f2) (hO : Out M M2 a 20)  : WP mX4_copyFrom 46 [some (.ref a), some (.ref b), some (.int (nI 4))] [] M2 z 0 0 (Mut none M a f2 z) := by
  have hao := hA.1
  have hbo := hB.1
  refine g_aload_0 dX4_copyFrom_46 ?_
  refine g_aload_1 dX4_copyFrom_47 ?_
  refine g_get dX4_copyFrom_48 (fX4_50 rfl) hbo rfl ?_
  refine g_putS (ty := .int) (s := 0) dX4_copyFrom_51 (fX4_50 rfl) (by decide) hA (fun M1 hA1 hO1 => ?_)
  have hao1 := hA1.1
  have hco1 := hA1.2.1.1
  have hyo1 := hA1.2.2.1.1
  have hbo := (hO1 b (by omega)).trans hbo
  refine g_aload_0 dX4_copyFrom_54 ?_
  refine g_aload_1 dX4_copyFrom_55 ?_
  refine g_get dX4_copyFrom_56 (fX4_53 rfl) hbo rfl ?_
  refine g_putS (ty := .int) (s := 1) dX4_copyFrom_59 (fX4_53 rfl) (by decide) hA1 (fun M2 hA2 hO2 => ?_)
  have hao2 := hA2.1
  have hco2 := hA2.2.1.1
  have hyo2 := hA2.2.2.1.1
  have hbo := (hO2 b (by omega)).trans hbo
  refine g_aload_0 dX4_copyFrom_62 ?_
  refine g_aload_1 dX4_copyFrom_63 ?_
  refine g_get dX4_copyFrom_64 (fX4_31 rfl) hbo rfl ?_
  refine g_putS (ty := .int) (s := 2) dX4_copyFrom_67 (fX4_31 rfl) (by decide) hA2 (fun M3 hA3 hO3 => ?_)
  have hao3 := hA3.1
  have hco3 := hA3.2.1.1
  have hyo3 := hA3.2.2.1.1
  have hbo := (hO3 b (by omega)).trans hbo
  refine g_aload_0 dX4_copyFrom_70 ?_
  refine g_aload_1 dX4_copyFrom_71 ?_
  refine g_get dX4_copyFrom_72 (fX4_35 rfl) hbo rfl ?_
  refine g_putS (ty := .int) (s := 3) dX4_copyFrom_75 (fX4_35 rfl) (by decide) hA3 (fun M4 hA4 hO4 => ?_)
  have hao4 := hA4.1
  have hco4 := hA4.2.1.1
  have hyo4 := hA4.2.2.1.1
  have hbo := (hO4 b (by omega)).trans hbo
  refine g_aload_0 dX4_copyFrom_78 ?_
  refine g_aload_1 dX4_copyFrom_79 ?_
  refine g_get dX4_copyFrom_80 (fX4_56 rfl) hbo rfl ?_
  refine g_putS (ty := .int) (s := 4) dX4_copyFrom_83 (fX4_56 rfl) (by decide) hA4 (fun M5 hA5 hO5 => ?_)
  have hao5 := hA5.1
  have hco5 := hA5.2.1.1
  have hyo5 := hA5.2.2.1.1
  have hbo := (hO5 b (by omega)).trans hbo
  refine g_aload_0 dX4_copyFrom_86 ?_
  refine g_aload_1 dX4_copyFrom_87 ?_
  refine g_get dX4_copyFrom_88 (fX4_59 rfl) hbo rfl ?_
  refine g_putS (ty := .int) (s := 5) dX4_copyFrom_91 (fX4_59 rfl) (by decide) hA5 (fun M6 hA6 hO6 => ?_)
  have hao6 := hA6.1
  have hco6 := hA6.2.1.1
  have hyo6 := hA6.2.2.1.1
  have hbo := (hO6 b (by omega)).trans hbo
  refine g_return rfl dX4_copyFrom_94 (Nat.le_of_ble_eq_true rfl) (Nat.le_of_ble_eq_true rfl) ⟨rfl, ⟨_, _, _, hA6, ?_⟩, hO.tr (hO1.tr (hO2.tr (hO3.tr (hO4.tr (hO5.tr hO6))))), rfl⟩
  refine hRel2.cong (fun kk hk i hi => ?_) (fun kk hk i hi => ?_) (fun s hs => ?_) (fun m hm i hi => mx_lt hi) (fun m => chars_mx (hRel.2.2.2.2.2.2.2 m) (hRel2.2.2.2.2.2.2.2 m))
  · match kk, hk with
    | 0, _ => exact mx_lt hi
    | 1, _ => exact mx_lt hi
    | 2, _ => exact mx_lt hi
  · match kk, hk with
    | 0, _ => exact mx_lt hi
    | 1, _ => exact mx_lt hi
    | 2, _ => exact mx_lt hi
    | 3, _ => exact mx_lt hi
    | 4, _ => exact mx_lt hi
  · match s, hs with
    | 0, _ => rfl
    | 1, _ => rfl
    | 2, _ => rfl
    | 3, _ => rfl
    | 4, _ => rfl
    | 5, _ => rfl
theorem q_copyFrom {f2 : Row} (hF : RugF M a f) (hF2 : RugF M b f2) (hd : a + 20 ≤ b ∨ b + 20 ≤ a) : Runs mX4_copyFrom [.ref a, .ref b] M z (Mut none M a f2 z) := by
  obtain ⟨R, ln, sg, hA, hRel⟩ := hF
  obtain ⟨R2, ln2, sg2, hB, hRel2⟩ := hF2
  have hao := hA.1
  have hbo := hB.1
  have hco := hA.2.1.1
  have hyo := hA.2.2.1.1
  refine runs_of plX4 rfl (Nat.le_of_ble_eq_true rfl) ?_
  show WP mX4_copyFrom 0 [some (.ref a), some (.ref b), none] [] M z 0 0 _
  refine g_aload_0 dX4_copyFrom_0 ?_
  refine g_get dX4_copyFrom_1 (fX4_12 rfl) hao rfl ?_
  refine g_aload_1 dX4_copyFrom_4 ?_
  refine g_get dX4_copyFrom_5 (fX4_12 rfl) hbo rfl ?_
  refine g_v1 dX4_copyFrom_8 (vX4_39 rfl) rfl hco (Nat.le_of_ble_eq_true rfl) (Nat.le_of_ble_eq_true rfl) (Nat.le_of_ble_eq_true rfl) (c_canvasCopy hA.2.1 hB.2.1 (by omega)) (fun r M2 z2 hq => ?_) (fun E M2 z2 hq => by obtain ⟨hq, -⟩ := hq; cases hq)
  obtain ⟨hr, hC1, hO1, rfl⟩ := hq
  cases hr
  have hao1 := (hO1 _ (by omega)).trans hao
  have hbo1 := (hO1 _ (by omega)).trans hbo
  have hyo1 := (hO1 _ (by omega)).trans hyo
  have hY1 := hA.2.2.1.keep (fun c c1 c2 => hO1 c (by omega))
  have hB1 := hB.keep (fun c c1 c2 => hO1 c (by omega))
  have hM1 := hA.2.2.2.keep (fun c c1 c2 => hO1 c (by omega))
  refine g_aload_0 dX4_copyFrom_11 ?_
  refine g_get dX4_copyFrom_12 (fX4_21 rfl) hao1 rfl ?_
  refine g_aload_1 dX4_copyFrom_15 ?_
  refine g_get dX4_copyFrom_16 (fX4_21 rfl) hbo1 rfl ?_
  refine g_v1 dX4_copyFrom_19 (vX4_43 rfl) rfl hyo1 (Nat.le_of_ble_eq_true rfl) (Nat.le_of_ble_eq_true rfl) (Nat.le_of_ble_eq_true rfl) (c_yarnCopy hY1 hB1.2.2.1 (by omega)) (fun r M2 z2 hq => ?_) (fun E M2 z2 hq => by obtain ⟨hq, -⟩ := hq; cases hq)
  obtain ⟨hr, hY2, hO2, rfl⟩ := hq
  cases hr
  have hao2 := (hO2 _ (by omega)).trans hao1
  have hB2 := hB1.keep (fun c c1 c2 => hO2 c (by omega))
  have hC2 := hC1.keep (fun c c1 c2 => hO2 c (by omega))
  obtain ⟨fm, hm1, hm2, hm3⟩ := (hM1.keep (fun c c1 c2 => hO2 c (by omega))).scr
  obtain ⟨fb, hb1, hb2, hb3⟩ := hB2.2.2.2.scr
  refine g_iconst (v := nI 0) dX4_copyFrom_22 rfl ?_
  refine g_istore_2 rfl dX4_copyFrom_23 ?_
  refine q_copy_loop (M0 := _) (R2 := R2) (ln2 := ln2) (sg2 := sg2) (ln := ln) (sg := sg) hd hm2 hb2 hRel2.2.2.2.2.2.2.2 4 0 _ rfl hao2 hm1 hB2.1 hb1 (fun m hm => absurd hm (by omega)) (fun m _ hm => hm3 m hm) hb3 Out.rf (fun M3 hs3 hO3 => ?_)
  have hA3 : RugAt M3 a (mkR (mx 144 (R2 0) (R 0)) (mx 144 (R2 1) (R 1)) (mx 144 (R2 2) (R 2)) (mx 5 (R2 3) (R 3)) (mx 5 (R2 4) (R 4)) (mx 5 (R2 5) (R 5)) (mx 5 (R2 6) (R 6)) (mx 5 (R2 7) (R 7)) (R 13)) ln2 (fun m => mx 120 (sg2 m) (sg m)) :=
    ⟨(hO3 _ (by omega)).trans hao2, hC2.keep (fun c c1 c2 => hO3 c (by omega)), hY2.keep (fun c c1 c2 => hO3 c (by omega)), ⟨fm, (hO3 _ (by omega)).trans hm1, hm2⟩, hs3⟩
  have hB3 := hB2.keep (fun c c1 c2 => hO3 c (by omega))
  exact q_copy_tail hd hA3 hB3 hRel hRel2 (fun c hc => (hO3 c (by omega)).trans ((hO2 c (by omega)).trans (hO1 c (by omega))))
end P23
