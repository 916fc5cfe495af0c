section P66
variable {x y w0 w1 w2 : Int32} {sd : Int64}
theorem xcL_13 : Cond.classLink RL 13 IAE ∈ gW := tW2 206 (by decide +kernel) rfl
theorem xcL_15 : Cond.classLink RL 15 ISE ∈ gW := tW2 207 (by decide +kernel) rfl
theorem xcL_20 : Cond.classLink RL 20 IOE ∈ gW := tW3 66 (by decide +kernel) rfl
theorem wok_append : Wok mL_append mX7_append [.int w0] := by
  intro M z a o v Q ⟨fs, hob⟩ hc hQ
  refine runs_ofH plL (by decide) (Nat.le_of_ble_eq_true rfl) ?_
  show WP mL_append 0 [some (.ref a), some (.int w0), some (.ref o), none] [] M z 0 0 _
  refine g_aload_2 dL_append_0 ?_
  refine g_iconst (v := nI 0) dL_append_1 rfl ?_
  refine g_aload_0 dL_append_2 ?_
  refine g_iload_1 dL_append_3 ?_
  refine g_v1 dL_append_4 (vL_7 rfl) rfl hob (Nat.le_of_ble_eq_true rfl) (Nat.le_of_ble_eq_true rfl) (Nat.le_of_ble_eq_true rfl) (hc) (fun r M2 z2 hq => ?_) (fun E M2 z2 hq => by obtain ⟨hq, -⟩ := hq; cases hq)
  obtain ⟨hr, hq1⟩ := hq
  cases hr
  obtain ⟨fo, hfo⟩ := hQ _ _ hq1
  refine g_i2l dL_append_7 ?_
  refine g_lastN dL_append_8 hfo (by omega) (by decide) ?_
  refine g_goto (tgt := 18) dL_append_9 (by decide) ?_
  refine g_iconst (v := nI 0) dL_append_18 rfl ?_
  exact g_ireturn rfl rfl dL_append_19 (Nat.le_of_ble_eq_true rfl) (Nat.le_of_ble_eq_true rfl) ⟨rfl, _, fo, hq1, hfo, rfl⟩
theorem wno_append1 : Wno mL_append mX7_append [.int w0] IAE 1 := by
  intro M z a o ⟨fs, hob⟩ ⟨fo, hfo⟩ hc
  refine runs_ofH plL (by decide) (Nat.le_of_ble_eq_true rfl) ?_
  show WP mL_append 0 [some (.ref a), some (.int w0), some (.ref o), none] [] M z 0 0 _
  refine g_aload_2 dL_append_0 ?_
  refine g_iconst (v := nI 0) dL_append_1 rfl ?_
  refine g_aload_0 dL_append_2 ?_
  refine g_iload_1 dL_append_3 ?_
  refine g_v1_x dL_append_4 (vL_7 rfl) rfl hob (Nat.le_of_ble_eq_true rfl) (Nat.le_of_ble_eq_true rfl) (Nat.le_of_ble_eq_true rfl) hc (fun z2 hz2 => ?_)
  refine x_catch [] ⟨0, 9, 12, 13⟩ [⟨0, 9, 15, 15⟩] (by decide) rfl (fun q hq => absurd hq List.not_mem_nil) rfl (by decide) xcL_13 gK_IAE (fun q => ?_)
  refine g_astore_3 rfl dL_append_12 ?_
  refine g_iconst (v := nI 1) dL_append_13 rfl ?_
  exact g_ireturn rfl rfl dL_append_14 (Nat.le_of_ble_eq_true rfl) (Nat.le_of_ble_eq_true rfl) ⟨rfl, rfl, hz2⟩
theorem wno_append2 : Wno mL_append mX7_append [.int w0] ISE 2 := by
  intro M z a o ⟨fs, hob⟩ ⟨fo, hfo⟩ hc
  refine runs_ofH plL (by decide) (Nat.le_of_ble_eq_true rfl) ?_
  show WP mL_append 0 [some (.ref a), some (.int w0), some (.ref o), none] [] M z 0 0 _
  refine g_aload_2 dL_append_0 ?_
  refine g_iconst (v := nI 0) dL_append_1 rfl ?_
  refine g_aload_0 dL_append_2 ?_
  refine g_iload_1 dL_append_3 ?_
  refine g_v1_x dL_append_4 (vL_7 rfl) rfl hob (Nat.le_of_ble_eq_true rfl) (Nat.le_of_ble_eq_true rfl) (Nat.le_of_ble_eq_true rfl) hc (fun z2 hz2 => ?_)
  refine x_catch [⟨0, 9, 12, 13⟩] ⟨0, 9, 15, 15⟩ [] (by decide) rfl (fun q hq => by
      simp only [List.mem_cons, List.not_mem_nil, or_false] at hq
      subst hq
      exact ⟨by decide, IAE, xcL_13, by decide⟩) rfl (by decide) xcL_15 gK_ISE (fun q => ?_)
  refine g_astore_3 rfl dL_append_15 ?_
  refine g_iconst (v := nI 2) dL_append_16 rfl ?_
  exact g_ireturn rfl rfl dL_append_17 (Nat.le_of_ble_eq_true rfl) (Nat.le_of_ble_eq_true rfl) ⟨rfl, rfl, hz2⟩
theorem wok_planOf : Wok mL_planOf mX7_planOf [.int w0] := by
  intro M z a o v Q ⟨fs, hob⟩ hc hQ
  refine runs_ofH plL (by decide) (Nat.le_of_ble_eq_true rfl) ?_
  show WP mL_planOf 0 [some (.ref a), some (.int w0), some (.ref o), none] [] M z 0 0 _
  refine g_aload_2 dL_planOf_0 ?_
  refine g_iconst (v := nI 0) dL_planOf_1 rfl ?_
  refine g_aload_0 dL_planOf_2 ?_
  refine g_iload_1 dL_planOf_3 ?_
  refine g_v1 dL_planOf_4 (vL_17 rfl) rfl hob (Nat.le_of_ble_eq_true rfl) (Nat.le_of_ble_eq_true rfl) (Nat.le_of_ble_eq_true rfl) (hc) (fun r M2 z2 hq => ?_) (fun E M2 z2 hq => by obtain ⟨hq, -⟩ := hq; cases hq)
  obtain ⟨hr, hq1⟩ := hq
  cases hr
  obtain ⟨fo, hfo⟩ := hQ _ _ hq1
  refine g_i2l dL_planOf_7 ?_
  refine g_lastN dL_planOf_8 hfo (by omega) (by decide) ?_
  refine g_goto (tgt := 15) dL_planOf_9 (by decide) ?_
  refine g_iconst (v := nI 0) dL_planOf_15 rfl ?_
  exact g_ireturn rfl rfl dL_planOf_16 (Nat.le_of_ble_eq_true rfl) (Nat.le_of_ble_eq_true rfl) ⟨rfl, _, fo, hq1, hfo, rfl⟩
theorem wno_planOf1 : Wno mL_planOf mX7_planOf [.int w0] IOE 1 := by
  intro M z a o ⟨fs, hob⟩ ⟨fo, hfo⟩ hc
  refine runs_ofH plL (by decide) (Nat.le_of_ble_eq_true rfl) ?_
  show WP mL_planOf 0 [some (.ref a), some (.int w0), some (.ref o), none] [] M z 0 0 _
  refine g_aload_2 dL_planOf_0 ?_
  refine g_iconst (v := nI 0) dL_planOf_1 rfl ?_
  refine g_aload_0 dL_planOf_2 ?_
  refine g_iload_1 dL_planOf_3 ?_
  refine g_v1_x dL_planOf_4 (vL_17 rfl) rfl hob (Nat.le_of_ble_eq_true rfl) (Nat.le_of_ble_eq_true rfl) (Nat.le_of_ble_eq_true rfl) hc (fun z2 hz2 => ?_)
  refine x_catch [] ⟨0, 9, 12, 20⟩ [] (by decide) rfl (fun q hq => absurd hq List.not_mem_nil) rfl (by decide) xcL_20 gK_IOE (fun q => ?_)
  refine g_astore_3 rfl dL_planOf_12 ?_
  refine g_iconst (v := nI 1) dL_planOf_13 rfl ?_
  exact g_ireturn rfl rfl dL_planOf_14 (Nat.le_of_ble_eq_true rfl) (Nat.le_of_ble_eq_true rfl) ⟨rfl, rfl, hz2⟩
theorem wok_loopOf : Wok mL_loopOf mX7_loopOf [.int w0] := by
  intro M z a o v Q ⟨fs, hob⟩ hc hQ
  refine runs_ofH plL (by decide) (Nat.le_of_ble_eq_true rfl) ?_
  show WP mL_loopOf 0 [some (.ref a), some (.int w0), some (.ref o), none] [] M z 0 0 _
  refine g_aload_2 dL_loopOf_0 ?_
  refine g_iconst (v := nI 0) dL_loopOf_1 rfl ?_
  refine g_aload_0 dL_loopOf_2 ?_
  refine g_iload_1 dL_loopOf_3 ?_
  refine g_v1 dL_loopOf_4 (vL_22 rfl) rfl hob (Nat.le_of_ble_eq_true rfl) (Nat.le_of_ble_eq_true rfl) (Nat.le_of_ble_eq_true rfl) (hc) (fun r M2 z2 hq => ?_) (fun E M2 z2 hq => by obtain ⟨hq, -⟩ := hq; cases hq)
  obtain ⟨hr, hq1⟩ := hq
  cases hr
  obtain ⟨fo, hfo⟩ := hQ _ _ hq1
  refine g_i2l dL_loopOf_7 ?_
  refine g_lastN dL_loopOf_8 hfo (by omega) (by decide) ?_
  refine g_goto (tgt := 15) dL_loopOf_9 (by decide) ?_
  refine g_iconst (v := nI 0) dL_loopOf_15 rfl ?_
  exact g_ireturn rfl rfl dL_loopOf_16 (Nat.le_of_ble_eq_true rfl) (Nat.le_of_ble_eq_true rfl) ⟨rfl, _, fo, hq1, hfo, rfl⟩
theorem wno_loopOf1 : Wno mL_loopOf mX7_loopOf [.int w0] IOE 1 := by
  intro M z a o ⟨fs, hob⟩ ⟨fo, hfo⟩ hc
  refine runs_ofH plL (by decide) (Nat.le_of_ble_eq_true rfl) ?_
  show WP mL_loopOf 0 [some (.ref a), some (.int w0), some (.ref o), none] [] M z 0 0 _
  refine g_aload_2 dL_loopOf_0 ?_
  refine g_iconst (v := nI 0) dL_loopOf_1 rfl ?_
  refine g_aload_0 dL_loopOf_2 ?_
  refine g_iload_1 dL_loopOf_3 ?_
  refine g_v1_x dL_loopOf_4 (vL_22 rfl) rfl hob (Nat.le_of_ble_eq_true rfl) (Nat.le_of_ble_eq_true rfl) (Nat.le_of_ble_eq_true rfl) hc (fun z2 hz2 => ?_)
  refine x_catch [] ⟨0, 9, 12, 20⟩ [] (by decide) rfl (fun q hq => absurd hq List.not_mem_nil) rfl (by decide) xcL_20 gK_IOE (fun q => ?_)
  refine g_astore_3 rfl dL_loopOf_12 ?_
  refine g_iconst (v := nI 1) dL_loopOf_13 rfl ?_
  exact g_ireturn rfl rfl dL_loopOf_14 (Nat.le_of_ble_eq_true rfl) (Nat.le_of_ble_eq_true rfl) ⟨rfl, rfl, hz2⟩
theorem wok_heightOf : Wok mL_heightOf mX7_heightOf [.int w0] := by
  intro M z a o v Q ⟨fs, hob⟩ hc hQ
  refine runs_ofH plL (by decide) (Nat.le_of_ble_eq_true rfl) ?_
  show WP mL_heightOf 0 [some (.ref a), some (.int w0), some (.ref o), none] [] M z 0 0 _
  refine g_aload_2 dL_heightOf_0 ?_
  refine g_iconst (v := nI 0) dL_heightOf_1 rfl ?_
  refine g_aload_0 dL_heightOf_2 ?_
  refine g_iload_1 dL_heightOf_3 ?_
  refine g_v1 dL_heightOf_4 (vL_25 rfl) rfl hob (Nat.le_of_ble_eq_true rfl) (Nat.le_of_ble_eq_true rfl) (Nat.le_of_ble_eq_true rfl) (hc) (fun r M2 z2 hq => ?_) (fun E M2 z2 hq => by obtain ⟨hq, -⟩ := hq; cases hq)
  obtain ⟨hr, hq1⟩ := hq
  cases hr
  obtain ⟨fo, hfo⟩ := hQ _ _ hq1
  refine g_i2l dL_heightOf_7 ?_
  refine g_lastN dL_heightOf_8 hfo (by omega) (by decide) ?_
  refine g_goto (tgt := 15) dL_heightOf_9 (by decide) ?_
  refine g_iconst (v := nI 0) dL_heightOf_15 rfl ?_
  exact g_ireturn rfl rfl dL_heightOf_16 (Nat.le_of_ble_eq_true rfl) (Nat.le_of_ble_eq_true rfl) ⟨rfl, _, fo, hq1, hfo, rfl⟩
theorem wno_heightOf1 : Wno mL_heightOf mX7_heightOf [.int w0] IOE 1 := by
  intro M z a o ⟨fs, hob⟩ ⟨fo, hfo⟩ hc
  refine runs_ofH plL (by decide) (Nat.le_of_ble_eq_true rfl) ?_
  show WP mL_heightOf 0 [some (.ref a), some (.int w0), some (.ref o), none] [] M z 0 0 _
  refine g_aload_2 dL_heightOf_0 ?_
  refine g_iconst (v := nI 0) dL_heightOf_1 rfl ?_
  refine g_aload_0 dL_heightOf_2 ?_
  refine g_iload_1 dL_heightOf_3 ?_
  refine g_v1_x dL_heightOf_4 (vL_25 rfl) rfl hob (Nat.le_of_ble_eq_true rfl) (Nat.le_of_ble_eq_true rfl) (Nat.le_of_ble_eq_true rfl) hc (fun z2 hz2 => ?_)
  refine x_catch [] ⟨0, 9, 12, 20⟩ [] (by decide) rfl (fun q hq => absurd hq List.not_mem_nil) rfl (by decide) xcL_20 gK_IOE (fun q => ?_)
  refine g_astore_3 rfl dL_heightOf_12 ?_
  refine g_iconst (v := nI 1) dL_heightOf_13 rfl ?_
  exact g_ireturn rfl rfl dL_heightOf_14 (Nat.le_of_ble_eq_true rfl) (Nat.le_of_ble_eq_true rfl) ⟨rfl, rfl, hz2⟩
theorem wok_isSkipped' {M : Hp} {z a o : Nat} {bq : Bool} {Q : Hp → Nat → Prop} (hob : ∃ fs, M a = some (.inr (7, fs))) (hc : Runs mX7_isSkipped [.ref a, .int w0] M z (fun r M' z' => r = .inl (some (.int (bI bq))) ∧ Q M' z')) (hQ : ∀ M' z', Q M' z' → ∃ fo, M' o = some (aJ 1 fo)) : Runs mL_isSkipped [.ref a, .int w0, .ref o] M z (fun r M2 z2 => r = .inl (some (.int (nI 0))) ∧ ∃ M1 fo, Q M1 z2 ∧ M1 o = some (aJ 1 fo) ∧ M2 = hpu M1 o (aJ 1 (vp_updL fo 0 (bI bq).toInt64))) := by
  obtain ⟨fs, hob⟩ := hob
  refine runs_ofH plL (by decide) (Nat.le_of_ble_eq_true rfl) ?_
  show WP mL_isSkipped 0 [some (.ref a), some (.int w0), some (.ref o), none] [] M z 0 0 _
  refine g_aload_2 dL_isSkipped_0 ?_
  refine g_iconst (v := nI 0) dL_isSkipped_1 rfl ?_
  refine g_aload_0 dL_isSkipped_2 ?_
  refine g_iload_1 dL_isSkipped_3 ?_
  refine g_v1 dL_isSkipped_4 (vL_28 rfl) rfl hob (Nat.le_of_ble_eq_true rfl) (Nat.le_of_ble_eq_true rfl) (Nat.le_of_ble_eq_true rfl) (hc) (fun r M2 z2 hq => ?_) (fun E M2 z2 hq => by obtain ⟨hq, -⟩ := hq; cases hq)
  obtain ⟨hr, hq1⟩ := hq
  cases hr
  obtain ⟨fo, hfo⟩ := hQ _ _ hq1
  refine g_if_eqB (tgt := 14) dL_isSkipped_7 (by decide)  (fun hbq => ?_) (fun hbq => ?_)
  · refine g_lconst (vl := 0) dL_isSkipped_14 rfl ?_
    refine g_lastN dL_isSkipped_15 hfo (by omega) (by decide) ?_
    refine g_goto (tgt := 22) dL_isSkipped_16 (by decide) ?_
    refine g_iconst (v := nI 0) dL_isSkipped_22 rfl ?_
    exact g_ireturn rfl rfl dL_isSkipped_23 (Nat.le_of_ble_eq_true rfl) (Nat.le_of_ble_eq_true rfl) ⟨rfl, _, fo, hq1, hfo, by rw [hbq]; rfl⟩
  · refine g_lconst (vl := 1) dL_isSkipped_10 rfl ?_
    refine g_goto (tgt := 15) dL_isSkipped_11 (by decide) ?_
    refine g_lastN dL_isSkipped_15 hfo (by omega) (by decide) ?_
    refine g_goto (tgt := 22) dL_isSkipped_16 (by decide) ?_
    refine g_iconst (v := nI 0) dL_isSkipped_22 rfl ?_
    exact g_ireturn rfl rfl dL_isSkipped_23 (Nat.le_of_ble_eq_true rfl) (Nat.le_of_ble_eq_true rfl) ⟨rfl, _, fo, hq1, hfo, by rw [hbq]; rfl⟩
theorem wno_isSkipped1 : Wno mL_isSkipped mX7_isSkipped [.int w0] IOE 1 := by
  intro M z a o ⟨fs, hob⟩ ⟨fo, hfo⟩ hc
  refine runs_ofH plL (by decide) (Nat.le_of_ble_eq_true rfl) ?_
  show WP mL_isSkipped 0 [some (.ref a), some (.int w0), some (.ref o), none] [] M z 0 0 _
  refine g_aload_2 dL_isSkipped_0 ?_
  refine g_iconst (v := nI 0) dL_isSkipped_1 rfl ?_
  refine g_aload_0 dL_isSkipped_2 ?_
  refine g_iload_1 dL_isSkipped_3 ?_
  refine g_v1_x dL_isSkipped_4 (vL_28 rfl) rfl hob (Nat.le_of_ble_eq_true rfl) (Nat.le_of_ble_eq_true rfl) (Nat.le_of_ble_eq_true rfl) hc (fun z2 hz2 => ?_)
  refine x_catch [] ⟨0, 16, 19, 20⟩ [] (by decide) rfl (fun q hq => absurd hq List.not_mem_nil) rfl (by decide) xcL_20 gK_IOE (fun q => ?_)
  refine g_astore_3 rfl dL_isSkipped_19 ?_
  refine g_iconst (v := nI 1) dL_isSkipped_20 rfl ?_
  exact g_ireturn rfl rfl dL_isSkipped_21 (Nat.le_of_ble_eq_true rfl) (Nat.le_of_ble_eq_true rfl) ⟨rfl, rfl, hz2⟩
theorem wok_areasBySpreading : Wok mL_areasBySpreading mX7_areasBySpreading [.int w0] := by
  intro M z a o v Q ⟨fs, hob⟩ hc hQ
  refine runs_ofH plL (by decide) (Nat.le_of_ble_eq_true rfl) ?_
  show WP mL_areasBySpreading 0 [some (.ref a), some (.int w0), some (.ref o), none] [] M z 0 0 _
  refine g_aload_2 dL_areasBySpreading_0 ?_
  refine g_iconst (v := nI 0) dL_areasBySpreading_1 rfl ?_
  refine g_aload_0 dL_areasBySpreading_2 ?_
  refine g_iload_1 dL_areasBySpreading_3 ?_
  refine g_v1 dL_areasBySpreading_4 (vL_32 rfl) rfl hob (Nat.le_of_ble_eq_true rfl) (Nat.le_of_ble_eq_true rfl) (Nat.le_of_ble_eq_true rfl) (hc) (fun r M2 z2 hq => ?_) (fun E M2 z2 hq => by obtain ⟨hq, -⟩ := hq; cases hq)
  obtain ⟨hr, hq1⟩ := hq
  cases hr
  obtain ⟨fo, hfo⟩ := hQ _ _ hq1
  refine g_i2l dL_areasBySpreading_7 ?_
  refine g_lastN dL_areasBySpreading_8 hfo (by omega) (by decide) ?_
  refine g_goto (tgt := 15) dL_areasBySpreading_9 (by decide) ?_
  refine g_iconst (v := nI 0) dL_areasBySpreading_15 rfl ?_
  exact g_ireturn rfl rfl dL_areasBySpreading_16 (Nat.le_of_ble_eq_true rfl) (Nat.le_of_ble_eq_true rfl) ⟨rfl, _, fo, hq1, hfo, rfl⟩
theorem wno_areasBySpreading1 : Wno mL_areasBySpreading mX7_areasBySpreading [.int w0] IOE 1 := by
  intro M z a o ⟨fs, hob⟩ ⟨fo, hfo⟩ hc
  refine runs_ofH plL (by decide) (Nat.le_of_ble_eq_true rfl) ?_
  show WP mL_areasBySpreading 0 [some (.ref a), some (.int w0), some (.ref o), none] [] M z 0 0 _
  refine g_aload_2 dL_areasBySpreading_0 ?_
  refine g_iconst (v := nI 0) dL_areasBySpreading_1 rfl ?_
  refine g_aload_0 dL_areasBySpreading_2 ?_
  refine g_iload_1 dL_areasBySpreading_3 ?_
  refine g_v1_x dL_areasBySpreading_4 (vL_32 rfl) rfl hob (Nat.le_of_ble_eq_true rfl) (Nat.le_of_ble_eq_true rfl) (Nat.le_of_ble_eq_true rfl) hc (fun z2 hz2 => ?_)
  refine x_catch [] ⟨0, 9, 12, 20⟩ [] (by decide) rfl (fun q hq => absurd hq List.not_mem_nil) rfl (by decide) xcL_20 gK_IOE (fun q => ?_)
  refine g_astore_3 rfl dL_areasBySpreading_12 ?_
  refine g_iconst (v := nI 1) dL_areasBySpreading_13 rfl ?_
  exact g_ireturn rfl rfl dL_areasBySpreading_14 (Nat.le_of_ble_eq_true rfl) (Nat.le_of_ble_eq_true rfl) ⟨rfl, rfl, hz2⟩
theorem wok_areasByJoining : Wok mL_areasByJoining mX7_areasByJoining [.int w0] := by
  intro M z a o v Q ⟨fs, hob⟩ hc hQ
  refine runs_ofH plL (by decide) (Nat.le_of_ble_eq_true rfl) ?_
  show WP mL_areasByJoining 0 [some (.ref a), some (.int w0), some (.ref o), none] [] M z 0 0 _
  refine g_aload_2 dL_areasByJoining_0 ?_
  refine g_iconst (v := nI 0) dL_areasByJoining_1 rfl ?_
  refine g_aload_0 dL_areasByJoining_2 ?_
  refine g_iload_1 dL_areasByJoining_3 ?_
  refine g_v1 dL_areasByJoining_4 (vL_35 rfl) rfl hob (Nat.le_of_ble_eq_true rfl) (Nat.le_of_ble_eq_true rfl) (Nat.le_of_ble_eq_true rfl) (hc) (fun r M2 z2 hq => ?_) (fun E M2 z2 hq => by obtain ⟨hq, -⟩ := hq; cases hq)
  obtain ⟨hr, hq1⟩ := hq
  cases hr
  obtain ⟨fo, hfo⟩ := hQ _ _ hq1
  refine g_i2l dL_areasByJoining_7 ?_
  refine g_lastN dL_areasByJoining_8 hfo (by omega) (by decide) ?_
  refine g_goto (tgt := 15) dL_areasByJoining_9 (by decide) ?_
  refine g_iconst (v := nI 0) dL_areasByJoining_15 rfl ?_
  exact g_ireturn rfl rfl dL_areasByJoining_16 (Nat.le_of_ble_eq_true rfl) (Nat.le_of_ble_eq_true rfl) ⟨rfl, _, fo, hq1, hfo, rfl⟩
theorem wno_areasByJoining1 : Wno mL_areasByJoining mX7_areasByJoining [.int w0] IOE 1 := by
  intro M z a o ⟨fs, hob⟩ ⟨fo, hfo⟩ hc
  refine runs_ofH plL (by decide) (Nat.le_of_ble_eq_true rfl) ?_
  show WP mL_areasByJoining 0 [some (.ref a), some (.int w0), some (.ref o), none] [] M z 0 0 _
  refine g_aload_2 dL_areasByJoining_0 ?_
  refine g_iconst (v := nI 0) dL_areasByJoining_1 rfl ?_
  refine g_aload_0 dL_areasByJoining_2 ?_
  refine g_iload_1 dL_areasByJoining_3 ?_
  refine g_v1_x dL_areasByJoining_4 (vL_35 rfl) rfl hob (Nat.le_of_ble_eq_true rfl) (Nat.le_of_ble_eq_true rfl) (Nat.le_of_ble_eq_true rfl) hc (fun z2 hz2 => ?_)
  refine x_catch [] ⟨0, 9, 12, 20⟩ [] (by decide) rfl (fun q hq => absurd hq List.not_mem_nil) rfl (by decide) xcL_20 gK_IOE (fun q => ?_)
  refine g_astore_3 rfl dL_areasByJoining_12 ?_
  refine g_iconst (v := nI 1) dL_areasByJoining_13 rfl ?_
  exact g_ireturn rfl rfl dL_areasByJoining_14 (Nat.le_of_ble_eq_true rfl) (Nat.le_of_ble_eq_true rfl) ⟨rfl, rfl, hz2⟩
theorem wok_coneOf : Wok mL_coneOf mX7_coneOf [.int w0] := by
  intro M z a o v Q ⟨fs, hob⟩ hc hQ
  refine runs_ofH plL (by decide) (Nat.le_of_ble_eq_true rfl) ?_
  show WP mL_coneOf 0 [some (.ref a), some (.int w0), some (.ref o), none] [] M z 0 0 _
  refine g_aload_2 dL_coneOf_0 ?_
  refine g_iconst (v := nI 0) dL_coneOf_1 rfl ?_
  refine g_aload_0 dL_coneOf_2 ?_
  refine g_iload_1 dL_coneOf_3 ?_
  refine g_v1 dL_coneOf_4 (vL_38 rfl) rfl hob (Nat.le_of_ble_eq_true rfl) (Nat.le_of_ble_eq_true rfl) (Nat.le_of_ble_eq_true rfl) (hc) (fun r M2 z2 hq => ?_) (fun E M2 z2 hq => by obtain ⟨hq, -⟩ := hq; cases hq)
  obtain ⟨hr, hq1⟩ := hq
  cases hr
  obtain ⟨fo, hfo⟩ := hQ _ _ hq1
  refine g_i2l dL_coneOf_7 ?_
  refine g_lastN dL_coneOf_8 hfo (by omega) (by decide) ?_
  refine g_goto (tgt := 15) dL_coneOf_9 (by decide) ?_
  refine g_iconst (v := nI 0) dL_coneOf_15 rfl ?_
  exact g_ireturn rfl rfl dL_coneOf_16 (Nat.le_of_ble_eq_true rfl) (Nat.le_of_ble_eq_true rfl) ⟨rfl, _, fo, hq1, hfo, rfl⟩
theorem wno_coneOf1 : Wno mL_coneOf mX7_coneOf [.int w0] IOE 1 := by
  intro M z a o ⟨fs, hob⟩ ⟨fo, hfo⟩ hc
  refine runs_ofH plL (by decide) (Nat.le_of_ble_eq_true rfl) ?_
  show WP mL_coneOf 0 [some (.ref a), some (.int w0), some (.ref o), none] [] M z 0 0 _
  refine g_aload_2 dL_coneOf_0 ?_
  refine g_iconst (v := nI 0) dL_coneOf_1 rfl ?_
  refine g_aload_0 dL_coneOf_2 ?_
  refine g_iload_1 dL_coneOf_3 ?_
  refine g_v1_x dL_coneOf_4 (vL_38 rfl) rfl hob (Nat.le_of_ble_eq_true rfl) (Nat.le_of_ble_eq_true rfl) (Nat.le_of_ble_eq_true rfl) hc (fun z2 hz2 => ?_)
  refine x_catch [] ⟨0, 9, 12, 20⟩ [] (by decide) rfl (fun q hq => absurd hq List.not_mem_nil) rfl (by decide) xcL_20 gK_IOE (fun q => ?_)
  refine g_astore_3 rfl dL_coneOf_12 ?_
  refine g_iconst (v := nI 1) dL_coneOf_13 rfl ?_
  exact g_ireturn rfl rfl dL_coneOf_14 (Nat.le_of_ble_eq_true rfl) (Nat.le_of_ble_eq_true rfl) ⟨rfl, rfl, hz2⟩
theorem wok_drawnByCone : Wok mL_drawnByCone mX7_drawnByCone [.int w0] := by
  intro M z a o v Q ⟨fs, hob⟩ hc hQ
  refine runs_ofH plL (by decide) (Nat.le_of_ble_eq_true rfl) ?_
  show WP mL_drawnByCone 0 [some (.ref a), some (.int w0), some (.ref o), none] [] M z 0 0 _
  refine g_aload_2 dL_drawnByCone_0 ?_
  refine g_iconst (v := nI 0) dL_drawnByCone_1 rfl ?_
  refine g_aload_0 dL_drawnByCone_2 ?_
  refine g_iload_1 dL_drawnByCone_3 ?_
  refine g_v1 dL_drawnByCone_4 (vL_41 rfl) rfl hob (Nat.le_of_ble_eq_true rfl) (Nat.le_of_ble_eq_true rfl) (Nat.le_of_ble_eq_true rfl) (hc) (fun r M2 z2 hq => ?_) (fun E M2 z2 hq => by obtain ⟨hq, -⟩ := hq; cases hq)
  obtain ⟨hr, hq1⟩ := hq
  cases hr
  obtain ⟨fo, hfo⟩ := hQ _ _ hq1
  refine g_i2l dL_drawnByCone_7 ?_
  refine g_lastN dL_drawnByCone_8 hfo (by omega) (by decide) ?_
  refine g_goto (tgt := 15) dL_drawnByCone_9 (by decide) ?_
  refine g_iconst (v := nI 0) dL_drawnByCone_15 rfl ?_
  exact g_ireturn rfl rfl dL_drawnByCone_16 (Nat.le_of_ble_eq_true rfl) (Nat.le_of_ble_eq_true rfl) ⟨rfl, _, fo, hq1, hfo, rfl⟩
theorem wno_drawnByCone1 : Wno mL_drawnByCone mX7_drawnByCone [.int w0] IOE 1 := by
  intro M z a o ⟨fs, hob⟩ ⟨fo, hfo⟩ hc
  refine runs_ofH plL (by decide) (Nat.le_of_ble_eq_true rfl) ?_
  show WP mL_drawnByCone 0 [some (.ref a), some (.int w0), some (.ref o), none] [] M z 0 0 _
  refine g_aload_2 dL_drawnByCone_0 ?_
  refine g_iconst (v := nI 0) dL_drawnByCone_1 rfl ?_
  refine g_aload_0 dL_drawnByCone_2 ?_
  refine g_iload_1 dL_drawnByCone_3 ?_
  refine g_v1_x dL_drawnByCone_4 (vL_41 rfl) rfl hob (Nat.le_of_ble_eq_true rfl) (Nat.le_of_ble_eq_true rfl) (Nat.le_of_ble_eq_true rfl) hc (fun z2 hz2 => ?_)
  refine x_catch [] ⟨0, 9, 12, 20⟩ [] (by decide) rfl (fun q hq => absurd hq List.not_mem_nil) rfl (by decide) xcL_20 gK_IOE (fun q => ?_)
  refine g_astore_3 rfl dL_drawnByCone_12 ?_
  refine g_iconst (v := nI 1) dL_drawnByCone_13 rfl ?_
  exact g_ireturn rfl rfl dL_drawnByCone_14 (Nat.le_of_ble_eq_true rfl) (Nat.le_of_ble_eq_true rfl) ⟨rfl, rfl, hz2⟩
theorem wok_drawnByRug : Wok mL_drawnByRug mX7_drawnByRug [.int w0] := by
  intro M z a o v Q ⟨fs, hob⟩ hc hQ
  refine runs_ofH plL (by decide) (Nat.le_of_ble_eq_true rfl) ?_
  show WP mL_drawnByRug 0 [some (.ref a), some (.int w0), some (.ref o), none] [] M z 0 0 _
  refine g_aload_2 dL_drawnByRug_0 ?_
  refine g_iconst (v := nI 0) dL_drawnByRug_1 rfl ?_
  refine g_aload_0 dL_drawnByRug_2 ?_
  refine g_iload_1 dL_drawnByRug_3 ?_
  refine g_v1 dL_drawnByRug_4 (vL_44 rfl) rfl hob (Nat.le_of_ble_eq_true rfl) (Nat.le_of_ble_eq_true rfl) (Nat.le_of_ble_eq_true rfl) (hc) (fun r M2 z2 hq => ?_) (fun E M2 z2 hq => by obtain ⟨hq, -⟩ := hq; cases hq)
  obtain ⟨hr, hq1⟩ := hq
  cases hr
  obtain ⟨fo, hfo⟩ := hQ _ _ hq1
  refine g_i2l dL_drawnByRug_7 ?_
  refine g_lastN dL_drawnByRug_8 hfo (by omega) (by decide) ?_
  refine g_goto (tgt := 15) dL_drawnByRug_9 (by decide) ?_
  refine g_iconst (v := nI 0) dL_drawnByRug_15 rfl ?_
  exact g_ireturn rfl rfl dL_drawnByRug_16 (Nat.le_of_ble_eq_true rfl) (Nat.le_of_ble_eq_true rfl) ⟨rfl, _, fo, hq1, hfo, rfl⟩
theorem wno_drawnByRug1 : Wno mL_drawnByRug mX7_drawnByRug [.int w0] IOE 1 := by
  intro M z a o ⟨fs, hob⟩ ⟨fo, hfo⟩ hc
  refine runs_ofH plL (by decide) (Nat.le_of_ble_eq_true rfl) ?_
  show WP mL_drawnByRug 0 [some (.ref a), some (.int w0), some (.ref o), none] [] M z 0 0 _
  refine g_aload_2 dL_drawnByRug_0 ?_
  refine g_iconst (v := nI 0) dL_drawnByRug_1 rfl ?_
  refine g_aload_0 dL_drawnByRug_2 ?_
  refine g_iload_1 dL_drawnByRug_3 ?_
  refine g_v1_x dL_drawnByRug_4 (vL_44 rfl) rfl hob (Nat.le_of_ble_eq_true rfl) (Nat.le_of_ble_eq_true rfl) (Nat.le_of_ble_eq_true rfl) hc (fun z2 hz2 => ?_)
  refine x_catch [] ⟨0, 9, 12, 20⟩ [] (by decide) rfl (fun q hq => absurd hq List.not_mem_nil) rfl (by decide) xcL_20 gK_IOE (fun q => ?_)
  refine g_astore_3 rfl dL_drawnByRug_12 ?_
  refine g_iconst (v := nI 1) dL_drawnByRug_13 rfl ?_
  exact g_ireturn rfl rfl dL_drawnByRug_14 (Nat.le_of_ble_eq_true rfl) (Nat.le_of_ble_eq_true rfl) ⟨rfl, rfl, hz2⟩
theorem wok_wasteOf : Wok mL_wasteOf mX7_wasteOf [.int w0] := by
  intro M z a o v Q ⟨fs, hob⟩ hc hQ
  refine runs_ofH plL (by decide) (Nat.le_of_ble_eq_true rfl) ?_
  show WP mL_wasteOf 0 [some (.ref a), some (.int w0), some (.ref o), none] [] M z 0 0 _
  refine g_aload_2 dL_wasteOf_0 ?_
  refine g_iconst (v := nI 0) dL_wasteOf_1 rfl ?_
  refine g_aload_0 dL_wasteOf_2 ?_
  refine g_iload_1 dL_wasteOf_3 ?_
  refine g_v1 dL_wasteOf_4 (vL_47 rfl) rfl hob (Nat.le_of_ble_eq_true rfl) (Nat.le_of_ble_eq_true rfl) (Nat.le_of_ble_eq_true rfl) (hc) (fun r M2 z2 hq => ?_) (fun E M2 z2 hq => by obtain ⟨hq, -⟩ := hq; cases hq)
  obtain ⟨hr, hq1⟩ := hq
  cases hr
  obtain ⟨fo, hfo⟩ := hQ _ _ hq1
  refine g_i2l dL_wasteOf_7 ?_
  refine g_lastN dL_wasteOf_8 hfo (by omega) (by decide) ?_
  refine g_goto (tgt := 15) dL_wasteOf_9 (by decide) ?_
  refine g_iconst (v := nI 0) dL_wasteOf_15 rfl ?_
  exact g_ireturn rfl rfl dL_wasteOf_16 (Nat.le_of_ble_eq_true rfl) (Nat.le_of_ble_eq_true rfl) ⟨rfl, _, fo, hq1, hfo, rfl⟩
theorem wno_wasteOf1 : Wno mL_wasteOf mX7_wasteOf [.int w0] IOE 1 := by
  intro M z a o ⟨fs, hob⟩ ⟨fo, hfo⟩ hc
  refine runs_ofH plL (by decide) (Nat.le_of_ble_eq_true rfl) ?_
  show WP mL_wasteOf 0 [some (.ref a), some (.int w0), some (.ref o), none] [] M z 0 0 _
  refine g_aload_2 dL_wasteOf_0 ?_
  refine g_iconst (v := nI 0) dL_wasteOf_1 rfl ?_
  refine g_aload_0 dL_wasteOf_2 ?_
  refine g_iload_1 dL_wasteOf_3 ?_
  refine g_v1_x dL_wasteOf_4 (vL_47 rfl) rfl hob (Nat.le_of_ble_eq_true rfl) (Nat.le_of_ble_eq_true rfl) (Nat.le_of_ble_eq_true rfl) hc (fun z2 hz2 => ?_)
  refine x_catch [] ⟨0, 9, 12, 20⟩ [] (by decide) rfl (fun q hq => absurd hq List.not_mem_nil) rfl (by decide) xcL_20 gK_IOE (fun q => ?_)
  refine g_astore_3 rfl dL_wasteOf_12 ?_
  refine g_iconst (v := nI 1) dL_wasteOf_13 rfl ?_
  exact g_ireturn rfl rfl dL_wasteOf_14 (Nat.le_of_ble_eq_true rfl) (Nat.le_of_ble_eq_true rfl) ⟨rfl, rfl, hz2⟩
theorem wok_neededFor : Wok mL_neededFor mX7_neededFor [.int w0] := by
  intro M z a o v Q ⟨fs, hob⟩ hc hQ
  refine runs_ofH plL (by decide) (Nat.le_of_ble_eq_true rfl) ?_
  show WP mL_neededFor 0 [some (.ref a), some (.int w0), some (.ref o), none] [] M z 0 0 _
  refine g_aload_2 dL_neededFor_0 ?_
  refine g_iconst (v := nI 0) dL_neededFor_1 rfl ?_
  refine g_aload_0 dL_neededFor_2 ?_
  refine g_iload_1 dL_neededFor_3 ?_
  refine g_v1 dL_neededFor_4 (vL_50 rfl) rfl hob (Nat.le_of_ble_eq_true rfl) (Nat.le_of_ble_eq_true rfl) (Nat.le_of_ble_eq_true rfl) (hc) (fun r M2 z2 hq => ?_) (fun E M2 z2 hq => by obtain ⟨hq, -⟩ := hq; cases hq)
  obtain ⟨hr, hq1⟩ := hq
  cases hr
  obtain ⟨fo, hfo⟩ := hQ _ _ hq1
  refine g_i2l dL_neededFor_7 ?_
  refine g_lastN dL_neededFor_8 hfo (by omega) (by decide) ?_
  refine g_goto (tgt := 15) dL_neededFor_9 (by decide) ?_
  refine g_iconst (v := nI 0) dL_neededFor_15 rfl ?_
  exact g_ireturn rfl rfl dL_neededFor_16 (Nat.le_of_ble_eq_true rfl) (Nat.le_of_ble_eq_true rfl) ⟨rfl, _, fo, hq1, hfo, rfl⟩
theorem wno_neededFor1 : Wno mL_neededFor mX7_neededFor [.int w0] IOE 1 := by
  intro M z a o ⟨fs, hob⟩ ⟨fo, hfo⟩ hc
  refine runs_ofH plL (by decide) (Nat.le_of_ble_eq_true rfl) ?_
  show WP mL_neededFor 0 [some (.ref a), some (.int w0), some (.ref o), none] [] M z 0 0 _
  refine g_aload_2 dL_neededFor_0 ?_
  refine g_iconst (v := nI 0) dL_neededFor_1 rfl ?_
  refine g_aload_0 dL_neededFor_2 ?_
  refine g_iload_1 dL_neededFor_3 ?_
  refine g_v1_x dL_neededFor_4 (vL_50 rfl) rfl hob (Nat.le_of_ble_eq_true rfl) (Nat.le_of_ble_eq_true rfl) (Nat.le_of_ble_eq_true rfl) hc (fun z2 hz2 => ?_)
  refine x_catch [] ⟨0, 9, 12, 20⟩ [] (by decide) rfl (fun q hq => absurd hq List.not_mem_nil) rfl (by decide) xcL_20 gK_IOE (fun q => ?_)
  refine g_astore_3 rfl dL_neededFor_12 ?_
  refine g_iconst (v := nI 1) dL_neededFor_13 rfl ?_
  exact g_ireturn rfl rfl dL_neededFor_14 (Nat.le_of_ble_eq_true rfl) (Nat.le_of_ble_eq_true rfl) ⟨rfl, rfl, hz2⟩
theorem wok_untilKnot : Wok mL_untilKnot mX7_untilKnot [.int w0] := by
  intro M z a o v Q ⟨fs, hob⟩ hc hQ
  refine runs_ofH plL (by decide) (Nat.le_of_ble_eq_true rfl) ?_
  show WP mL_untilKnot 0 [some (.ref a), some (.int w0), some (.ref o), none] [] M z 0 0 _
  refine g_aload_2 dL_untilKnot_0 ?_
  refine g_iconst (v := nI 0) dL_untilKnot_1 rfl ?_
  refine g_aload_0 dL_untilKnot_2 ?_
  refine g_iload_1 dL_untilKnot_3 ?_
  refine g_v1 dL_untilKnot_4 (vL_53 rfl) rfl hob (Nat.le_of_ble_eq_true rfl) (Nat.le_of_ble_eq_true rfl) (Nat.le_of_ble_eq_true rfl) (hc) (fun r M2 z2 hq => ?_) (fun E M2 z2 hq => by obtain ⟨hq, -⟩ := hq; cases hq)
  obtain ⟨hr, hq1⟩ := hq
  cases hr
  obtain ⟨fo, hfo⟩ := hQ _ _ hq1
  refine g_i2l dL_untilKnot_7 ?_
  refine g_lastN dL_untilKnot_8 hfo (by omega) (by decide) ?_
  refine g_goto (tgt := 15) dL_untilKnot_9 (by decide) ?_
  refine g_iconst (v := nI 0) dL_untilKnot_15 rfl ?_
  exact g_ireturn rfl rfl dL_untilKnot_16 (Nat.le_of_ble_eq_true rfl) (Nat.le_of_ble_eq_true rfl) ⟨rfl, _, fo, hq1, hfo, rfl⟩
theorem wno_untilKnot1 : Wno mL_untilKnot mX7_untilKnot [.int w0] IOE 1 := by
  intro M z a o ⟨fs, hob⟩ ⟨fo, hfo⟩ hc
  refine runs_ofH plL (by decide) (Nat.le_of_ble_eq_true rfl) ?_
  show WP mL_untilKnot 0 [some (.ref a), some (.int w0), some (.ref o), none] [] M z 0 0 _
  refine g_aload_2 dL_untilKnot_0 ?_
  refine g_iconst (v := nI 0) dL_untilKnot_1 rfl ?_
  refine g_aload_0 dL_untilKnot_2 ?_
  refine g_iload_1 dL_untilKnot_3 ?_
  refine g_v1_x dL_untilKnot_4 (vL_53 rfl) rfl hob (Nat.le_of_ble_eq_true rfl) (Nat.le_of_ble_eq_true rfl) (Nat.le_of_ble_eq_true rfl) hc (fun z2 hz2 => ?_)
  refine x_catch [] ⟨0, 9, 12, 20⟩ [] (by decide) rfl (fun q hq => absurd hq List.not_mem_nil) rfl (by decide) xcL_20 gK_IOE (fun q => ?_)
  refine g_astore_3 rfl dL_untilKnot_12 ?_
  refine g_iconst (v := nI 1) dL_untilKnot_13 rfl ?_
  exact g_ireturn rfl rfl dL_untilKnot_14 (Nat.le_of_ble_eq_true rfl) (Nat.le_of_ble_eq_true rfl) ⟨rfl, rfl, hz2⟩
theorem wok_motifLength : Wok mL_motifLength mX7_motifLength [.int w0] := by
  intro M z a o v Q ⟨fs, hob⟩ hc hQ
  refine runs_ofH plL (by decide) (Nat.le_of_ble_eq_true rfl) ?_
  show WP mL_motifLength 0 [some (.ref a), some (.int w0), some (.ref o), none] [] M z 0 0 _
  refine g_aload_2 dL_motifLength_0 ?_
  refine g_iconst (v := nI 0) dL_motifLength_1 rfl ?_
  refine g_aload_0 dL_motifLength_2 ?_
  refine g_iload_1 dL_motifLength_3 ?_
  refine g_v1 dL_motifLength_4 (vL_56 rfl) rfl hob (Nat.le_of_ble_eq_true rfl) (Nat.le_of_ble_eq_true rfl) (Nat.le_of_ble_eq_true rfl) (hc) (fun r M2 z2 hq => ?_) (fun E M2 z2 hq => by obtain ⟨hq, -⟩ := hq; cases hq)
  obtain ⟨hr, hq1⟩ := hq
  cases hr
  obtain ⟨fo, hfo⟩ := hQ _ _ hq1
  refine g_i2l dL_motifLength_7 ?_
  refine g_lastN dL_motifLength_8 hfo (by omega) (by decide) ?_
  refine g_goto (tgt := 15) dL_motifLength_9 (by decide) ?_
  refine g_iconst (v := nI 0) dL_motifLength_15 rfl ?_
  exact g_ireturn rfl rfl dL_motifLength_16 (Nat.le_of_ble_eq_true rfl) (Nat.le_of_ble_eq_true rfl) ⟨rfl, _, fo, hq1, hfo, rfl⟩
theorem wno_motifLength1 : Wno mL_motifLength mX7_motifLength [.int w0] IOE 1 := by
  intro M z a o ⟨fs, hob⟩ ⟨fo, hfo⟩ hc
  refine runs_ofH plL (by decide) (Nat.le_of_ble_eq_true rfl) ?_
  show WP mL_motifLength 0 [some (.ref a), some (.int w0), some (.ref o), none] [] M z 0 0 _
  refine g_aload_2 dL_motifLength_0 ?_
  refine g_iconst (v := nI 0) dL_motifLength_1 rfl ?_
  refine g_aload_0 dL_motifLength_2 ?_
  refine g_iload_1 dL_motifLength_3 ?_
  refine g_v1_x dL_motifLength_4 (vL_56 rfl) rfl hob (Nat.le_of_ble_eq_true rfl) (Nat.le_of_ble_eq_true rfl) (Nat.le_of_ble_eq_true rfl) hc (fun z2 hz2 => ?_)
  refine x_catch [] ⟨0, 9, 12, 20⟩ [] (by decide) rfl (fun q hq => absurd hq List.not_mem_nil) rfl (by decide) xcL_20 gK_IOE (fun q => ?_)
  refine g_astore_3 rfl dL_motifLength_12 ?_
  refine g_iconst (v := nI 1) dL_motifLength_13 rfl ?_
  exact g_ireturn rfl rfl dL_motifLength_14 (Nat.le_of_ble_eq_true rfl) (Nat.le_of_ble_eq_true rfl) ⟨rfl, rfl, hz2⟩
theorem wok_motifSign : Wok mL_motifSign mX7_motifSign [.int w0, .int w1] := by
  intro M z a o v Q ⟨fs, hob⟩ hc hQ
  refine runs_ofH plL (by decide) (Nat.le_of_ble_eq_true rfl) ?_
  show WP mL_motifSign 0 [some (.ref a), some (.int w0), some (.int w1), some (.ref o), none] [] M z 0 0 _
  refine g_aload_3 dL_motifSign_0 ?_
  refine g_iconst (v := nI 0) dL_motifSign_1 rfl ?_
  refine g_aload_0 dL_motifSign_2 ?_
  refine g_iload_1 dL_motifSign_3 ?_
  refine g_iload_2 dL_motifSign_4 ?_
  refine g_v2 dL_motifSign_5 (vL_59 rfl) rfl hob (Nat.le_of_ble_eq_true rfl) (Nat.le_of_ble_eq_true rfl) (Nat.le_of_ble_eq_true rfl) (hc) (fun r M2 z2 hq => ?_) (fun E M2 z2 hq => by obtain ⟨hq, -⟩ := hq; cases hq)
  obtain ⟨hr, hq1⟩ := hq
  cases hr
  obtain ⟨fo, hfo⟩ := hQ _ _ hq1
  refine g_i2l dL_motifSign_8 ?_
  refine g_lastN dL_motifSign_9 hfo (by omega) (by decide) ?_
  refine g_goto (tgt := 17) dL_motifSign_10 (by decide) ?_
  refine g_iconst (v := nI 0) dL_motifSign_17 rfl ?_
  exact g_ireturn rfl rfl dL_motifSign_18 (Nat.le_of_ble_eq_true rfl) (Nat.le_of_ble_eq_true rfl) ⟨rfl, _, fo, hq1, hfo, rfl⟩
theorem wno_motifSign1 : Wno mL_motifSign mX7_motifSign [.int w0, .int w1] IOE 1 := by
  intro M z a o ⟨fs, hob⟩ ⟨fo, hfo⟩ hc
  refine runs_ofH plL (by decide) (Nat.le_of_ble_eq_true rfl) ?_
  show WP mL_motifSign 0 [some (.ref a), some (.int w0), some (.int w1), some (.ref o), none] [] M z 0 0 _
  refine g_aload_3 dL_motifSign_0 ?_
  refine g_iconst (v := nI 0) dL_motifSign_1 rfl ?_
  refine g_aload_0 dL_motifSign_2 ?_
  refine g_iload_1 dL_motifSign_3 ?_
  refine g_iload_2 dL_motifSign_4 ?_
  refine g_v2_x dL_motifSign_5 (vL_59 rfl) rfl hob (Nat.le_of_ble_eq_true rfl) (Nat.le_of_ble_eq_true rfl) (Nat.le_of_ble_eq_true rfl) hc (fun z2 hz2 => ?_)
  refine x_catch [] ⟨0, 10, 13, 20⟩ [] (by decide) rfl (fun q hq => absurd hq List.not_mem_nil) rfl (by decide) xcL_20 gK_IOE (fun q => ?_)
  refine g_astore_4 rfl dL_motifSign_13 ?_
  refine g_iconst (v := nI 1) dL_motifSign_15 rfl ?_
  exact g_ireturn rfl rfl dL_motifSign_16 (Nat.le_of_ble_eq_true rfl) (Nat.le_of_ble_eq_true rfl) ⟨rfl, rfl, hz2⟩
theorem wok_setPlan : Wok mL_setPlan mX7_setPlan [.int w0, .int w1] := by
  intro M z a o v Q ⟨fs, hob⟩ hc hQ
  refine runs_ofH plL (by decide) (Nat.le_of_ble_eq_true rfl) ?_
  show WP mL_setPlan 0 [some (.ref a), some (.int w0), some (.int w1), some (.ref o), none] [] M z 0 0 _
  refine g_aload_3 dL_setPlan_0 ?_
  refine g_iconst (v := nI 0) dL_setPlan_1 rfl ?_
  refine g_aload_0 dL_setPlan_2 ?_
  refine g_iload_1 dL_setPlan_3 ?_
  refine g_iload_2 dL_setPlan_4 ?_
  refine g_v2 dL_setPlan_5 (vL_63 rfl) rfl hob (Nat.le_of_ble_eq_true rfl) (Nat.le_of_ble_eq_true rfl) (Nat.le_of_ble_eq_true rfl) (hc) (fun r M2 z2 hq => ?_) (fun E M2 z2 hq => by obtain ⟨hq, -⟩ := hq; cases hq)
  obtain ⟨hr, hq1⟩ := hq
  cases hr
  obtain ⟨fo, hfo⟩ := hQ _ _ hq1
  refine g_i2l dL_setPlan_8 ?_
  refine g_lastN dL_setPlan_9 hfo (by omega) (by decide) ?_
  refine g_goto (tgt := 21) dL_setPlan_10 (by decide) ?_
  refine g_iconst (v := nI 0) dL_setPlan_21 rfl ?_
  exact g_ireturn rfl rfl dL_setPlan_22 (Nat.le_of_ble_eq_true rfl) (Nat.le_of_ble_eq_true rfl) ⟨rfl, _, fo, hq1, hfo, rfl⟩
theorem wno_setPlan1 : Wno mL_setPlan mX7_setPlan [.int w0, .int w1] IOE 1 := by
  intro M z a o ⟨fs, hob⟩ ⟨fo, hfo⟩ hc
  refine runs_ofH plL (by decide) (Nat.le_of_ble_eq_true rfl) ?_
  show WP mL_setPlan 0 [some (.ref a), some (.int w0), some (.int w1), some (.ref o), none] [] M z 0 0 _
  refine g_aload_3 dL_setPlan_0 ?_
  refine g_iconst (v := nI 0) dL_setPlan_1 rfl ?_
  refine g_aload_0 dL_setPlan_2 ?_
  refine g_iload_1 dL_setPlan_3 ?_
  refine g_iload_2 dL_setPlan_4 ?_
  refine g_v2_x dL_setPlan_5 (vL_63 rfl) rfl hob (Nat.le_of_ble_eq_true rfl) (Nat.le_of_ble_eq_true rfl) (Nat.le_of_ble_eq_true rfl) hc (fun z2 hz2 => ?_)
  refine x_catch [] ⟨0, 10, 13, 20⟩ [⟨0, 10, 17, 13⟩] (by decide) rfl (fun q hq => absurd hq List.not_mem_nil) rfl (by decide) xcL_20 gK_IOE (fun q => ?_)
  refine g_astore_4 rfl dL_setPlan_13 ?_
  refine g_iconst (v := nI 1) dL_setPlan_15 rfl ?_
  exact g_ireturn rfl rfl dL_setPlan_16 (Nat.le_of_ble_eq_true rfl) (Nat.le_of_ble_eq_true rfl) ⟨rfl, rfl, hz2⟩
theorem wno_setPlan2 : Wno mL_setPlan mX7_setPlan [.int w0, .int w1] IAE 2 := by
  intro M z a o ⟨fs, hob⟩ ⟨fo, hfo⟩ hc
  refine runs_ofH plL (by decide) (Nat.le_of_ble_eq_true rfl) ?_
  show WP mL_setPlan 0 [some (.ref a), some (.int w0), some (.int w1), some (.ref o), none] [] M z 0 0 _
  refine g_aload_3 dL_setPlan_0 ?_
  refine g_iconst (v := nI 0) dL_setPlan_1 rfl ?_
  refine g_aload_0 dL_setPlan_2 ?_
  refine g_iload_1 dL_setPlan_3 ?_
  refine g_iload_2 dL_setPlan_4 ?_
  refine g_v2_x dL_setPlan_5 (vL_63 rfl) rfl hob (Nat.le_of_ble_eq_true rfl) (Nat.le_of_ble_eq_true rfl) (Nat.le_of_ble_eq_true rfl) hc (fun z2 hz2 => ?_)
  refine x_catch [⟨0, 10, 13, 20⟩] ⟨0, 10, 17, 13⟩ [] (by decide) rfl (fun q hq => by
      simp only [List.mem_cons, List.not_mem_nil, or_false] at hq
      subst hq
      exact ⟨by decide, IOE, xcL_20, by decide⟩) rfl (by decide) xcL_13 gK_IAE (fun q => ?_)
  refine g_astore_4 rfl dL_setPlan_17 ?_
  refine g_iconst (v := nI 2) dL_setPlan_19 rfl ?_
  exact g_ireturn rfl rfl dL_setPlan_20 (Nat.le_of_ble_eq_true rfl) (Nat.le_of_ble_eq_true rfl) ⟨rfl, rfl, hz2⟩
theorem wok_fillPlan : Wok mL_fillPlan mX7_fillPlan [.int w0, .int w1, .int w2] := by
  intro M z a o v Q ⟨fs, hob⟩ hc hQ
  refine runs_ofH plL (by decide) (Nat.le_of_ble_eq_true rfl) ?_
  show WP mL_fillPlan 0 [some (.ref a), some (.int w0), some (.int w1), some (.int w2), some (.ref o), none] [] M z 0 0 _
  refine g_aload_4 dL_fillPlan_0 ?_
  refine g_iconst (v := nI 0) dL_fillPlan_2 rfl ?_
  refine g_aload_0 dL_fillPlan_3 ?_
  refine g_iload_1 dL_fillPlan_4 ?_
  refine g_iload_2 dL_fillPlan_5 ?_
  refine g_iload_3 dL_fillPlan_6 ?_
  refine g_v3 dL_fillPlan_7 (vL_66 rfl) rfl hob (Nat.le_of_ble_eq_true rfl) (Nat.le_of_ble_eq_true rfl) (Nat.le_of_ble_eq_true rfl) (hc) (fun r M2 z2 hq => ?_) (fun E M2 z2 hq => by obtain ⟨hq, -⟩ := hq; cases hq)
  obtain ⟨hr, hq1⟩ := hq
  cases hr
  obtain ⟨fo, hfo⟩ := hQ _ _ hq1
  refine g_i2l dL_fillPlan_10 ?_
  refine g_lastN dL_fillPlan_11 hfo (by omega) (by decide) ?_
  refine g_goto (tgt := 23) dL_fillPlan_12 (by decide) ?_
  refine g_iconst (v := nI 0) dL_fillPlan_23 rfl ?_
  exact g_ireturn rfl rfl dL_fillPlan_24 (Nat.le_of_ble_eq_true rfl) (Nat.le_of_ble_eq_true rfl) ⟨rfl, _, fo, hq1, hfo, rfl⟩
theorem wno_fillPlan1 : Wno mL_fillPlan mX7_fillPlan [.int w0, .int w1, .int w2] IOE 1 := by
  intro M z a o ⟨fs, hob⟩ ⟨fo, hfo⟩ hc
  refine runs_ofH plL (by decide) (Nat.le_of_ble_eq_true rfl) ?_
  show WP mL_fillPlan 0 [some (.ref a), some (.int w0), some (.int w1), some (.int w2), some (.ref o), none] [] M z 0 0 _
  refine g_aload_4 dL_fillPlan_0 ?_
  refine g_iconst (v := nI 0) dL_fillPlan_2 rfl ?_
  refine g_aload_0 dL_fillPlan_3 ?_
  refine g_iload_1 dL_fillPlan_4 ?_
  refine g_iload_2 dL_fillPlan_5 ?_
  refine g_iload_3 dL_fillPlan_6 ?_
  refine g_v3_x dL_fillPlan_7 (vL_66 rfl) rfl hob (Nat.le_of_ble_eq_true rfl) (Nat.le_of_ble_eq_true rfl) (Nat.le_of_ble_eq_true rfl) hc (fun z2 hz2 => ?_)
  refine x_catch [] ⟨0, 12, 15, 20⟩ [⟨0, 12, 19, 13⟩] (by decide) rfl (fun q hq => absurd hq List.not_mem_nil) rfl (by decide) xcL_20 gK_IOE (fun q => ?_)
  refine g_astore_5 rfl dL_fillPlan_15 ?_
  refine g_iconst (v := nI 1) dL_fillPlan_17 rfl ?_
  exact g_ireturn rfl rfl dL_fillPlan_18 (Nat.le_of_ble_eq_true rfl) (Nat.le_of_ble_eq_true rfl) ⟨rfl, rfl, hz2⟩
theorem wno_fillPlan2 : Wno mL_fillPlan mX7_fillPlan [.int w0, .int w1, .int w2] IAE 2 := by
  intro M z a o ⟨fs, hob⟩ ⟨fo, hfo⟩ hc
  refine runs_ofH plL (by decide) (Nat.le_of_ble_eq_true rfl) ?_
  show WP mL_fillPlan 0 [some (.ref a), some (.int w0), some (.int w1), some (.int w2), some (.ref o), none] [] M z 0 0 _
  refine g_aload_4 dL_fillPlan_0 ?_
  refine g_iconst (v := nI 0) dL_fillPlan_2 rfl ?_
  refine g_aload_0 dL_fillPlan_3 ?_
  refine g_iload_1 dL_fillPlan_4 ?_
  refine g_iload_2 dL_fillPlan_5 ?_
  refine g_iload_3 dL_fillPlan_6 ?_
  refine g_v3_x dL_fillPlan_7 (vL_66 rfl) rfl hob (Nat.le_of_ble_eq_true rfl) (Nat.le_of_ble_eq_true rfl) (Nat.le_of_ble_eq_true rfl) hc (fun z2 hz2 => ?_)
  refine x_catch [⟨0, 12, 15, 20⟩] ⟨0, 12, 19, 13⟩ [] (by decide) rfl (fun q hq => by
      simp only [List.mem_cons, List.not_mem_nil, or_false] at hq
      subst hq
      exact ⟨by decide, IOE, xcL_20, by decide⟩) rfl (by decide) xcL_13 gK_IAE (fun q => ?_)
  refine g_astore_5 rfl dL_fillPlan_19 ?_
  refine g_iconst (v := nI 2) dL_fillPlan_21 rfl ?_
  exact g_ireturn rfl rfl dL_fillPlan_22 (Nat.le_of_ble_eq_true rfl) (Nat.le_of_ble_eq_true rfl) ⟨rfl, rfl, hz2⟩
theorem wok_thread : Wok mL_thread mX7_thread [.int w0] := by
  intro M z a o v Q ⟨fs, hob⟩ hc hQ
  refine runs_ofH plL (by decide) (Nat.le_of_ble_eq_true rfl) ?_
  show WP mL_thread 0 [some (.ref a), some (.int w0), some (.ref o), none] [] M z 0 0 _
  refine g_aload_2 dL_thread_0 ?_
  refine g_iconst (v := nI 0) dL_thread_1 rfl ?_
  refine g_aload_0 dL_thread_2 ?_
  refine g_iload_1 dL_thread_3 ?_
  refine g_v1 dL_thread_4 (vL_70 rfl) rfl hob (Nat.le_of_ble_eq_true rfl) (Nat.le_of_ble_eq_true rfl) (Nat.le_of_ble_eq_true rfl) (hc) (fun r M2 z2 hq => ?_) (fun E M2 z2 hq => by obtain ⟨hq, -⟩ := hq; cases hq)
  obtain ⟨hr, hq1⟩ := hq
  cases hr
  obtain ⟨fo, hfo⟩ := hQ _ _ hq1
  refine g_i2l dL_thread_7 ?_
  refine g_lastN dL_thread_8 hfo (by omega) (by decide) ?_
  refine g_goto (tgt := 18) dL_thread_9 (by decide) ?_
  refine g_iconst (v := nI 0) dL_thread_18 rfl ?_
  exact g_ireturn rfl rfl dL_thread_19 (Nat.le_of_ble_eq_true rfl) (Nat.le_of_ble_eq_true rfl) ⟨rfl, _, fo, hq1, hfo, rfl⟩
theorem wno_thread1 : Wno mL_thread mX7_thread [.int w0] IOE 1 := by
  intro M z a o ⟨fs, hob⟩ ⟨fo, hfo⟩ hc
  refine runs_ofH plL (by decide) (Nat.le_of_ble_eq_true rfl) ?_
  show WP mL_thread 0 [some (.ref a), some (.int w0), some (.ref o), none] [] M z 0 0 _
  refine g_aload_2 dL_thread_0 ?_
  refine g_iconst (v := nI 0) dL_thread_1 rfl ?_
  refine g_aload_0 dL_thread_2 ?_
  refine g_iload_1 dL_thread_3 ?_
  refine g_v1_x dL_thread_4 (vL_70 rfl) rfl hob (Nat.le_of_ble_eq_true rfl) (Nat.le_of_ble_eq_true rfl) (Nat.le_of_ble_eq_true rfl) hc (fun z2 hz2 => ?_)
  refine x_catch [] ⟨0, 9, 12, 20⟩ [⟨0, 9, 15, 15⟩] (by decide) rfl (fun q hq => absurd hq List.not_mem_nil) rfl (by decide) xcL_20 gK_IOE (fun q => ?_)
  refine g_astore_3 rfl dL_thread_12 ?_
  refine g_iconst (v := nI 1) dL_thread_13 rfl ?_
  exact g_ireturn rfl rfl dL_thread_14 (Nat.le_of_ble_eq_true rfl) (Nat.le_of_ble_eq_true rfl) ⟨rfl, rfl, hz2⟩
theorem wno_thread2 : Wno mL_thread mX7_thread [.int w0] ISE 2 := by
  intro M z a o ⟨fs, hob⟩ ⟨fo, hfo⟩ hc
  refine runs_ofH plL (by decide) (Nat.le_of_ble_eq_true rfl) ?_
  show WP mL_thread 0 [some (.ref a), some (.int w0), some (.ref o), none] [] M z 0 0 _
  refine g_aload_2 dL_thread_0 ?_
  refine g_iconst (v := nI 0) dL_thread_1 rfl ?_
  refine g_aload_0 dL_thread_2 ?_
  refine g_iload_1 dL_thread_3 ?_
  refine g_v1_x dL_thread_4 (vL_70 rfl) rfl hob (Nat.le_of_ble_eq_true rfl) (Nat.le_of_ble_eq_true rfl) (Nat.le_of_ble_eq_true rfl) hc (fun z2 hz2 => ?_)
  refine x_catch [⟨0, 9, 12, 20⟩] ⟨0, 9, 15, 15⟩ [] (by decide) rfl (fun q hq => by
      simp only [List.mem_cons, List.not_mem_nil, or_false] at hq
      subst hq
      exact ⟨by decide, IOE, xcL_20, by decide⟩) rfl (by decide) xcL_15 gK_ISE (fun q => ?_)
  refine g_astore_3 rfl dL_thread_15 ?_
  refine g_iconst (v := nI 2) dL_thread_16 rfl ?_
  exact g_ireturn rfl rfl dL_thread_17 (Nat.le_of_ble_eq_true rfl) (Nat.le_of_ble_eq_true rfl) ⟨rfl, rfl, hz2⟩
theorem wok_cut : Wok mL_cut mX7_cut [] := by
  intro M z a o v Q ⟨fs, hob⟩ hc hQ
  refine runs_ofH plL (by decide) (Nat.le_of_ble_eq_true rfl) ?_
  show WP mL_cut 0 [some (.ref a), some (.ref o), none] [] M z 0 0 _
  refine g_aload_1 dL_cut_0 ?_
  refine g_iconst (v := nI 0) dL_cut_1 rfl ?_
  refine g_aload_0 dL_cut_2 ?_
  refine g_v0 dL_cut_3 (vL_73 rfl) rfl hob (Nat.le_of_ble_eq_true rfl) (Nat.le_of_ble_eq_true rfl) (Nat.le_of_ble_eq_true rfl) (hc) (fun r M2 z2 hq => ?_) (fun E M2 z2 hq => by obtain ⟨hq, -⟩ := hq; cases hq)
  obtain ⟨hr, hq1⟩ := hq
  cases hr
  obtain ⟨fo, hfo⟩ := hQ _ _ hq1
  refine g_i2l dL_cut_6 ?_
  refine g_lastN dL_cut_7 hfo (by omega) (by decide) ?_
  refine g_goto (tgt := 14) dL_cut_8 (by decide) ?_
  refine g_iconst (v := nI 0) dL_cut_14 rfl ?_
  exact g_ireturn rfl rfl dL_cut_15 (Nat.le_of_ble_eq_true rfl) (Nat.le_of_ble_eq_true rfl) ⟨rfl, _, fo, hq1, hfo, rfl⟩
theorem wno_cut1 : Wno mL_cut mX7_cut [] ISE 1 := by
  intro M z a o ⟨fs, hob⟩ ⟨fo, hfo⟩ hc
  refine runs_ofH plL (by decide) (Nat.le_of_ble_eq_true rfl) ?_
  show WP mL_cut 0 [some (.ref a), some (.ref o), none] [] M z 0 0 _
  refine g_aload_1 dL_cut_0 ?_
  refine g_iconst (v := nI 0) dL_cut_1 rfl ?_
  refine g_aload_0 dL_cut_2 ?_
  refine g_v0_x dL_cut_3 (vL_73 rfl) rfl hob (Nat.le_of_ble_eq_true rfl) (Nat.le_of_ble_eq_true rfl) (Nat.le_of_ble_eq_true rfl) hc (fun z2 hz2 => ?_)
  refine x_catch [] ⟨0, 8, 11, 15⟩ [] (by decide) rfl (fun q hq => absurd hq List.not_mem_nil) rfl (by decide) xcL_15 gK_ISE (fun q => ?_)
  refine g_astore_2 rfl dL_cut_11 ?_
  refine g_iconst (v := nI 1) dL_cut_12 rfl ?_
  exact g_ireturn rfl rfl dL_cut_13 (Nat.le_of_ble_eq_true rfl) (Nat.le_of_ble_eq_true rfl) ⟨rfl, rfl, hz2⟩
theorem wok_sew : Wok mL_sew mX7_sew [.int w0] := by
  intro M z a o v Q ⟨fs, hob⟩ hc hQ
  refine runs_ofH plL (by decide) (Nat.le_of_ble_eq_true rfl) ?_
  show WP mL_sew 0 [some (.ref a), some (.int w0), some (.ref o), none] [] M z 0 0 _
  refine g_aload_2 dL_sew_0 ?_
  refine g_iconst (v := nI 0) dL_sew_1 rfl ?_
  refine g_aload_0 dL_sew_2 ?_
  refine g_iload_1 dL_sew_3 ?_
  refine g_v1 dL_sew_4 (vL_77 rfl) rfl hob (Nat.le_of_ble_eq_true rfl) (Nat.le_of_ble_eq_true rfl) (Nat.le_of_ble_eq_true rfl) (hc) (fun r M2 z2 hq => ?_) (fun E M2 z2 hq => by obtain ⟨hq, -⟩ := hq; cases hq)
  obtain ⟨hr, hq1⟩ := hq
  cases hr
  obtain ⟨fo, hfo⟩ := hQ _ _ hq1
  refine g_i2l dL_sew_7 ?_
  refine g_lastN dL_sew_8 hfo (by omega) (by decide) ?_
  refine g_goto (tgt := 18) dL_sew_9 (by decide) ?_
  refine g_iconst (v := nI 0) dL_sew_18 rfl ?_
  exact g_ireturn rfl rfl dL_sew_19 (Nat.le_of_ble_eq_true rfl) (Nat.le_of_ble_eq_true rfl) ⟨rfl, _, fo, hq1, hfo, rfl⟩
theorem wno_sew1 : Wno mL_sew mX7_sew [.int w0] IAE 1 := by
  intro M z a o ⟨fs, hob⟩ ⟨fo, hfo⟩ hc
  refine runs_ofH plL (by decide) (Nat.le_of_ble_eq_true rfl) ?_
  show WP mL_sew 0 [some (.ref a), some (.int w0), some (.ref o), none] [] M z 0 0 _
  refine g_aload_2 dL_sew_0 ?_
  refine g_iconst (v := nI 0) dL_sew_1 rfl ?_
  refine g_aload_0 dL_sew_2 ?_
  refine g_iload_1 dL_sew_3 ?_
  refine g_v1_x dL_sew_4 (vL_77 rfl) rfl hob (Nat.le_of_ble_eq_true rfl) (Nat.le_of_ble_eq_true rfl) (Nat.le_of_ble_eq_true rfl) hc (fun z2 hz2 => ?_)
  refine x_catch [] ⟨0, 9, 12, 13⟩ [⟨0, 9, 15, 15⟩] (by decide) rfl (fun q hq => absurd hq List.not_mem_nil) rfl (by decide) xcL_13 gK_IAE (fun q => ?_)
  refine g_astore_3 rfl dL_sew_12 ?_
  refine g_iconst (v := nI 1) dL_sew_13 rfl ?_
  exact g_ireturn rfl rfl dL_sew_14 (Nat.le_of_ble_eq_true rfl) (Nat.le_of_ble_eq_true rfl) ⟨rfl, rfl, hz2⟩
theorem wno_sew2 : Wno mL_sew mX7_sew [.int w0] ISE 2 := by
  intro M z a o ⟨fs, hob⟩ ⟨fo, hfo⟩ hc
  refine runs_ofH plL (by decide) (Nat.le_of_ble_eq_true rfl) ?_
  show WP mL_sew 0 [some (.ref a), some (.int w0), some (.ref o), none] [] M z 0 0 _
  refine g_aload_2 dL_sew_0 ?_
  refine g_iconst (v := nI 0) dL_sew_1 rfl ?_
  refine g_aload_0 dL_sew_2 ?_
  refine g_iload_1 dL_sew_3 ?_
  refine g_v1_x dL_sew_4 (vL_77 rfl) rfl hob (Nat.le_of_ble_eq_true rfl) (Nat.le_of_ble_eq_true rfl) (Nat.le_of_ble_eq_true rfl) hc (fun z2 hz2 => ?_)
  refine x_catch [⟨0, 9, 12, 13⟩] ⟨0, 9, 15, 15⟩ [] (by decide) rfl (fun q hq => by
      simp only [List.mem_cons, List.not_mem_nil, or_false] at hq
      subst hq
      exact ⟨by decide, IAE, xcL_13, by decide⟩) rfl (by decide) xcL_15 gK_ISE (fun q => ?_)
  refine g_astore_3 rfl dL_sew_15 ?_
  refine g_iconst (v := nI 2) dL_sew_16 rfl ?_
  exact g_ireturn rfl rfl dL_sew_17 (Nat.le_of_ble_eq_true rfl) (Nat.le_of_ble_eq_true rfl) ⟨rfl, rfl, hz2⟩
theorem wok_jump : Wok mL_jump mX7_jump [.int w0] := by
  intro M z a o v Q ⟨fs, hob⟩ hc hQ
  refine runs_ofH plL (by decide) (Nat.le_of_ble_eq_true rfl) ?_
  show WP mL_jump 0 [some (.ref a), some (.int w0), some (.ref o), none] [] M z 0 0 _
  refine g_aload_2 dL_jump_0 ?_
  refine g_iconst (v := nI 0) dL_jump_1 rfl ?_
  refine g_aload_0 dL_jump_2 ?_
  refine g_iload_1 dL_jump_3 ?_
  refine g_v1 dL_jump_4 (vL_80 rfl) rfl hob (Nat.le_of_ble_eq_true rfl) (Nat.le_of_ble_eq_true rfl) (Nat.le_of_ble_eq_true rfl) (hc) (fun r M2 z2 hq => ?_) (fun E M2 z2 hq => by obtain ⟨hq, -⟩ := hq; cases hq)
  obtain ⟨hr, hq1⟩ := hq
  cases hr
  obtain ⟨fo, hfo⟩ := hQ _ _ hq1
  refine g_i2l dL_jump_7 ?_
  refine g_lastN dL_jump_8 hfo (by omega) (by decide) ?_
  refine g_goto (tgt := 15) dL_jump_9 (by decide) ?_
  refine g_iconst (v := nI 0) dL_jump_15 rfl ?_
  exact g_ireturn rfl rfl dL_jump_16 (Nat.le_of_ble_eq_true rfl) (Nat.le_of_ble_eq_true rfl) ⟨rfl, _, fo, hq1, hfo, rfl⟩
theorem wno_jump1 : Wno mL_jump mX7_jump [.int w0] IAE 1 := by
  intro M z a o ⟨fs, hob⟩ ⟨fo, hfo⟩ hc
  refine runs_ofH plL (by decide) (Nat.le_of_ble_eq_true rfl) ?_
  show WP mL_jump 0 [some (.ref a), some (.int w0), some (.ref o), none] [] M z 0 0 _
  refine g_aload_2 dL_jump_0 ?_
  refine g_iconst (v := nI 0) dL_jump_1 rfl ?_
  refine g_aload_0 dL_jump_2 ?_
  refine g_iload_1 dL_jump_3 ?_
  refine g_v1_x dL_jump_4 (vL_80 rfl) rfl hob (Nat.le_of_ble_eq_true rfl) (Nat.le_of_ble_eq_true rfl) (Nat.le_of_ble_eq_true rfl) hc (fun z2 hz2 => ?_)
  refine x_catch [] ⟨0, 9, 12, 13⟩ [] (by decide) rfl (fun q hq => absurd hq List.not_mem_nil) rfl (by decide) xcL_13 gK_IAE (fun q => ?_)
  refine g_astore_3 rfl dL_jump_12 ?_
  refine g_iconst (v := nI 1) dL_jump_13 rfl ?_
  exact g_ireturn rfl rfl dL_jump_14 (Nat.le_of_ble_eq_true rfl) (Nat.le_of_ble_eq_true rfl) ⟨rfl, rfl, hz2⟩
theorem wok_ease : Wok mL_ease mX7_ease [] := by
  intro M z a o v Q ⟨fs, hob⟩ hc hQ
  refine runs_ofH plL (by decide) (Nat.le_of_ble_eq_true rfl) ?_
  show WP mL_ease 0 [some (.ref a), some (.ref o), none] [] M z 0 0 _
  refine g_aload_1 dL_ease_0 ?_
  refine g_iconst (v := nI 0) dL_ease_1 rfl ?_
  refine g_aload_0 dL_ease_2 ?_
  refine g_v0 dL_ease_3 (vL_83 rfl) rfl hob (Nat.le_of_ble_eq_true rfl) (Nat.le_of_ble_eq_true rfl) (Nat.le_of_ble_eq_true rfl) (hc) (fun r M2 z2 hq => ?_) (fun E M2 z2 hq => by obtain ⟨hq, -⟩ := hq; cases hq)
  obtain ⟨hr, hq1⟩ := hq
  cases hr
  obtain ⟨fo, hfo⟩ := hQ _ _ hq1
  refine g_i2l dL_ease_6 ?_
  refine g_lastN dL_ease_7 hfo (by omega) (by decide) ?_
  refine g_goto (tgt := 14) dL_ease_8 (by decide) ?_
  refine g_iconst (v := nI 0) dL_ease_14 rfl ?_
  exact g_ireturn rfl rfl dL_ease_15 (Nat.le_of_ble_eq_true rfl) (Nat.le_of_ble_eq_true rfl) ⟨rfl, _, fo, hq1, hfo, rfl⟩
theorem wno_ease1 : Wno mL_ease mX7_ease [] ISE 1 := by
  intro M z a o ⟨fs, hob⟩ ⟨fo, hfo⟩ hc
  refine runs_ofH plL (by decide) (Nat.le_of_ble_eq_true rfl) ?_
  show WP mL_ease 0 [some (.ref a), some (.ref o), none] [] M z 0 0 _
  refine g_aload_1 dL_ease_0 ?_
  refine g_iconst (v := nI 0) dL_ease_1 rfl ?_
  refine g_aload_0 dL_ease_2 ?_
  refine g_v0_x dL_ease_3 (vL_83 rfl) rfl hob (Nat.le_of_ble_eq_true rfl) (Nat.le_of_ble_eq_true rfl) (Nat.le_of_ble_eq_true rfl) hc (fun z2 hz2 => ?_)
  refine x_catch [] ⟨0, 8, 11, 15⟩ [] (by decide) rfl (fun q hq => absurd hq List.not_mem_nil) rfl (by decide) xcL_15 gK_ISE (fun q => ?_)
  refine g_astore_2 rfl dL_ease_11 ?_
  refine g_iconst (v := nI 1) dL_ease_12 rfl ?_
  exact g_ireturn rfl rfl dL_ease_13 (Nat.le_of_ble_eq_true rfl) (Nat.le_of_ble_eq_true rfl) ⟨rfl, rfl, hz2⟩
theorem wok_setHeight : Wok mL_setHeight mX7_setHeight [.int w0] := by
  intro M z a o v Q ⟨fs, hob⟩ hc hQ
  refine runs_ofH plL (by decide) (Nat.le_of_ble_eq_true rfl) ?_
  show WP mL_setHeight 0 [some (.ref a), some (.int w0), some (.ref o), none] [] M z 0 0 _
  refine g_aload_2 dL_setHeight_0 ?_
  refine g_iconst (v := nI 0) dL_setHeight_1 rfl ?_
  refine g_aload_0 dL_setHeight_2 ?_
  refine g_iload_1 dL_setHeight_3 ?_
  refine g_v1 dL_setHeight_4 (vL_86 rfl) rfl hob (Nat.le_of_ble_eq_true rfl) (Nat.le_of_ble_eq_true rfl) (Nat.le_of_ble_eq_true rfl) (hc) (fun r M2 z2 hq => ?_) (fun E M2 z2 hq => by obtain ⟨hq, -⟩ := hq; cases hq)
  obtain ⟨hr, hq1⟩ := hq
  cases hr
  obtain ⟨fo, hfo⟩ := hQ _ _ hq1
  refine g_i2l dL_setHeight_7 ?_
  refine g_lastN dL_setHeight_8 hfo (by omega) (by decide) ?_
  refine g_goto (tgt := 15) dL_setHeight_9 (by decide) ?_
  refine g_iconst (v := nI 0) dL_setHeight_15 rfl ?_
  exact g_ireturn rfl rfl dL_setHeight_16 (Nat.le_of_ble_eq_true rfl) (Nat.le_of_ble_eq_true rfl) ⟨rfl, _, fo, hq1, hfo, rfl⟩
theorem wno_setHeight1 : Wno mL_setHeight mX7_setHeight [.int w0] IAE 1 := by
  intro M z a o ⟨fs, hob⟩ ⟨fo, hfo⟩ hc
  refine runs_ofH plL (by decide) (Nat.le_of_ble_eq_true rfl) ?_
  show WP mL_setHeight 0 [some (.ref a), some (.int w0), some (.ref o), none] [] M z 0 0 _
  refine g_aload_2 dL_setHeight_0 ?_
  refine g_iconst (v := nI 0) dL_setHeight_1 rfl ?_
  refine g_aload_0 dL_setHeight_2 ?_
  refine g_iload_1 dL_setHeight_3 ?_
  refine g_v1_x dL_setHeight_4 (vL_86 rfl) rfl hob (Nat.le_of_ble_eq_true rfl) (Nat.le_of_ble_eq_true rfl) (Nat.le_of_ble_eq_true rfl) hc (fun z2 hz2 => ?_)
  refine x_catch [] ⟨0, 9, 12, 13⟩ [] (by decide) rfl (fun q hq => absurd hq List.not_mem_nil) rfl (by decide) xcL_13 gK_IAE (fun q => ?_)
  refine g_astore_3 rfl dL_setHeight_12 ?_
  refine g_iconst (v := nI 1) dL_setHeight_13 rfl ?_
  exact g_ireturn rfl rfl dL_setHeight_14 (Nat.le_of_ble_eq_true rfl) (Nat.le_of_ble_eq_true rfl) ⟨rfl, rfl, hz2⟩
theorem wok_place : Wok mL_place mX7_place [.int w0, .int w1] := by
  intro M z a o v Q ⟨fs, hob⟩ hc hQ
  refine runs_ofH plL (by decide) (Nat.le_of_ble_eq_true rfl) ?_
  show WP mL_place 0 [some (.ref a), some (.int w0), some (.int w1), some (.ref o), none] [] M z 0 0 _
  refine g_aload_3 dL_place_0 ?_
  refine g_iconst (v := nI 0) dL_place_1 rfl ?_
  refine g_aload_0 dL_place_2 ?_
  refine g_iload_1 dL_place_3 ?_
  refine g_iload_2 dL_place_4 ?_
  refine g_v2 dL_place_5 (vL_89 rfl) rfl hob (Nat.le_of_ble_eq_true rfl) (Nat.le_of_ble_eq_true rfl) (Nat.le_of_ble_eq_true rfl) (hc) (fun r M2 z2 hq => ?_) (fun E M2 z2 hq => by obtain ⟨hq, -⟩ := hq; cases hq)
  obtain ⟨hr, hq1⟩ := hq
  cases hr
  obtain ⟨fo, hfo⟩ := hQ _ _ hq1
  refine g_i2l dL_place_8 ?_
  refine g_lastN dL_place_9 hfo (by omega) (by decide) ?_
  refine g_goto (tgt := 25) dL_place_10 (by decide) ?_
  refine g_iconst (v := nI 0) dL_place_25 rfl ?_
  exact g_ireturn rfl rfl dL_place_26 (Nat.le_of_ble_eq_true rfl) (Nat.le_of_ble_eq_true rfl) ⟨rfl, _, fo, hq1, hfo, rfl⟩
theorem wno_place1 : Wno mL_place mX7_place [.int w0, .int w1] IOE 1 := by
  intro M z a o ⟨fs, hob⟩ ⟨fo, hfo⟩ hc
  refine runs_ofH plL (by decide) (Nat.le_of_ble_eq_true rfl) ?_
  show WP mL_place 0 [some (.ref a), some (.int w0), some (.int w1), some (.ref o), none] [] M z 0 0 _
  refine g_aload_3 dL_place_0 ?_
  refine g_iconst (v := nI 0) dL_place_1 rfl ?_
  refine g_aload_0 dL_place_2 ?_
  refine g_iload_1 dL_place_3 ?_
  refine g_iload_2 dL_place_4 ?_
  refine g_v2_x dL_place_5 (vL_89 rfl) rfl hob (Nat.le_of_ble_eq_true rfl) (Nat.le_of_ble_eq_true rfl) (Nat.le_of_ble_eq_true rfl) hc (fun z2 hz2 => ?_)
  refine x_catch [] ⟨0, 10, 13, 20⟩ [⟨0, 10, 17, 13⟩, ⟨0, 10, 21, 15⟩] (by decide) rfl (fun q hq => absurd hq List.not_mem_nil) rfl (by decide) xcL_20 gK_IOE (fun q => ?_)
  refine g_astore_4 rfl dL_place_13 ?_
  refine g_iconst (v := nI 1) dL_place_15 rfl ?_
  exact g_ireturn rfl rfl dL_place_16 (Nat.le_of_ble_eq_true rfl) (Nat.le_of_ble_eq_true rfl) ⟨rfl, rfl, hz2⟩
theorem wno_place2 : Wno mL_place mX7_place [.int w0, .int w1] IAE 2 := by
  intro M z a o ⟨fs, hob⟩ ⟨fo, hfo⟩ hc
  refine runs_ofH plL (by decide) (Nat.le_of_ble_eq_true rfl) ?_
  show WP mL_place 0 [some (.ref a), some (.int w0), some (.int w1), some (.ref o), none] [] M z 0 0 _
  refine g_aload_3 dL_place_0 ?_
  refine g_iconst (v := nI 0) dL_place_1 rfl ?_
  refine g_aload_0 dL_place_2 ?_
  refine g_iload_1 dL_place_3 ?_
  refine g_iload_2 dL_place_4 ?_
  refine g_v2_x dL_place_5 (vL_89 rfl) rfl hob (Nat.le_of_ble_eq_true rfl) (Nat.le_of_ble_eq_true rfl) (Nat.le_of_ble_eq_true rfl) hc (fun z2 hz2 => ?_)
  refine x_catch [⟨0, 10, 13, 20⟩] ⟨0, 10, 17, 13⟩ [⟨0, 10, 21, 15⟩] (by decide) rfl (fun q hq => by
      simp only [List.mem_cons, List.not_mem_nil, or_false] at hq
      subst hq
      exact ⟨by decide, IOE, xcL_20, by decide⟩) rfl (by decide) xcL_13 gK_IAE (fun q => ?_)
  refine g_astore_4 rfl dL_place_17 ?_
  refine g_iconst (v := nI 2) dL_place_19 rfl ?_
  exact g_ireturn rfl rfl dL_place_20 (Nat.le_of_ble_eq_true rfl) (Nat.le_of_ble_eq_true rfl) ⟨rfl, rfl, hz2⟩
theorem wno_place3 : Wno mL_place mX7_place [.int w0, .int w1] ISE 3 := by
  intro M z a o ⟨fs, hob⟩ ⟨fo, hfo⟩ hc
  refine runs_ofH plL (by decide) (Nat.le_of_ble_eq_true rfl) ?_
  show WP mL_place 0 [some (.ref a), some (.int w0), some (.int w1), some (.ref o), none] [] M z 0 0 _
  refine g_aload_3 dL_place_0 ?_
  refine g_iconst (v := nI 0) dL_place_1 rfl ?_
  refine g_aload_0 dL_place_2 ?_
  refine g_iload_1 dL_place_3 ?_
  refine g_iload_2 dL_place_4 ?_
  refine g_v2_x dL_place_5 (vL_89 rfl) rfl hob (Nat.le_of_ble_eq_true rfl) (Nat.le_of_ble_eq_true rfl) (Nat.le_of_ble_eq_true rfl) hc (fun z2 hz2 => ?_)
  refine x_catch [⟨0, 10, 13, 20⟩, ⟨0, 10, 17, 13⟩] ⟨0, 10, 21, 15⟩ [] (by decide) rfl (fun q hq => by
      simp only [List.mem_cons, List.not_mem_nil, or_false] at hq
      rcases hq with rfl | rfl
      · exact ⟨by decide, IOE, xcL_20, by decide⟩
      · exact ⟨by decide, IAE, xcL_13, by decide⟩) rfl (by decide) xcL_15 gK_ISE (fun q => ?_)
  refine g_astore_4 rfl dL_place_21 ?_
  refine g_iconst (v := nI 3) dL_place_23 rfl ?_
  exact g_ireturn rfl rfl dL_place_24 (Nat.le_of_ble_eq_true rfl) (Nat.le_of_ble_eq_true rfl) ⟨rfl, rfl, hz2⟩
theorem wok_wind : Wok mL_wind mX7_wind [.int w0, .int w1] := by
  intro M z a o v Q ⟨fs, hob⟩ hc hQ
  refine runs_ofH plL (by decide) (Nat.le_of_ble_eq_true rfl) ?_
  show WP mL_wind 0 [some (.ref a), some (.int w0), some (.int w1), some (.ref o), none] [] M z 0 0 _
  refine g_aload_3 dL_wind_0 ?_
  refine g_iconst (v := nI 0) dL_wind_1 rfl ?_
  refine g_aload_0 dL_wind_2 ?_
  refine g_iload_1 dL_wind_3 ?_
  refine g_iload_2 dL_wind_4 ?_
  refine g_v2 dL_wind_5 (vL_92 rfl) rfl hob (Nat.le_of_ble_eq_true rfl) (Nat.le_of_ble_eq_true rfl) (Nat.le_of_ble_eq_true rfl) (hc) (fun r M2 z2 hq => ?_) (fun E M2 z2 hq => by obtain ⟨hq, -⟩ := hq; cases hq)
  obtain ⟨hr, hq1⟩ := hq
  cases hr
  obtain ⟨fo, hfo⟩ := hQ _ _ hq1
  refine g_i2l dL_wind_8 ?_
  refine g_lastN dL_wind_9 hfo (by omega) (by decide) ?_
  refine g_goto (tgt := 25) dL_wind_10 (by decide) ?_
  refine g_iconst (v := nI 0) dL_wind_25 rfl ?_
  exact g_ireturn rfl rfl dL_wind_26 (Nat.le_of_ble_eq_true rfl) (Nat.le_of_ble_eq_true rfl) ⟨rfl, _, fo, hq1, hfo, rfl⟩
theorem wno_wind1 : Wno mL_wind mX7_wind [.int w0, .int w1] IOE 1 := by
  intro M z a o ⟨fs, hob⟩ ⟨fo, hfo⟩ hc
  refine runs_ofH plL (by decide) (Nat.le_of_ble_eq_true rfl) ?_
  show WP mL_wind 0 [some (.ref a), some (.int w0), some (.int w1), some (.ref o), none] [] M z 0 0 _
  refine g_aload_3 dL_wind_0 ?_
  refine g_iconst (v := nI 0) dL_wind_1 rfl ?_
  refine g_aload_0 dL_wind_2 ?_
  refine g_iload_1 dL_wind_3 ?_
  refine g_iload_2 dL_wind_4 ?_
  refine g_v2_x dL_wind_5 (vL_92 rfl) rfl hob (Nat.le_of_ble_eq_true rfl) (Nat.le_of_ble_eq_true rfl) (Nat.le_of_ble_eq_true rfl) hc (fun z2 hz2 => ?_)
  refine x_catch [] ⟨0, 10, 13, 20⟩ [⟨0, 10, 17, 13⟩, ⟨0, 10, 21, 15⟩] (by decide) rfl (fun q hq => absurd hq List.not_mem_nil) rfl (by decide) xcL_20 gK_IOE (fun q => ?_)
  refine g_astore_4 rfl dL_wind_13 ?_
  refine g_iconst (v := nI 1) dL_wind_15 rfl ?_
  exact g_ireturn rfl rfl dL_wind_16 (Nat.le_of_ble_eq_true rfl) (Nat.le_of_ble_eq_true rfl) ⟨rfl, rfl, hz2⟩
theorem wno_wind2 : Wno mL_wind mX7_wind [.int w0, .int w1] IAE 2 := by
  intro M z a o ⟨fs, hob⟩ ⟨fo, hfo⟩ hc
  refine runs_ofH plL (by decide) (Nat.le_of_ble_eq_true rfl) ?_
  show WP mL_wind 0 [some (.ref a), some (.int w0), some (.int w1), some (.ref o), none] [] M z 0 0 _
  refine g_aload_3 dL_wind_0 ?_
  refine g_iconst (v := nI 0) dL_wind_1 rfl ?_
  refine g_aload_0 dL_wind_2 ?_
  refine g_iload_1 dL_wind_3 ?_
  refine g_iload_2 dL_wind_4 ?_
  refine g_v2_x dL_wind_5 (vL_92 rfl) rfl hob (Nat.le_of_ble_eq_true rfl) (Nat.le_of_ble_eq_true rfl) (Nat.le_of_ble_eq_true rfl) hc (fun z2 hz2 => ?_)
  refine x_catch [⟨0, 10, 13, 20⟩] ⟨0, 10, 17, 13⟩ [⟨0, 10, 21, 15⟩] (by decide) rfl (fun q hq => by
      simp only [List.mem_cons, List.not_mem_nil, or_false] at hq
      subst hq
      exact ⟨by decide, IOE, xcL_20, by decide⟩) rfl (by decide) xcL_13 gK_IAE (fun q => ?_)
  refine g_astore_4 rfl dL_wind_17 ?_
  refine g_iconst (v := nI 2) dL_wind_19 rfl ?_
  exact g_ireturn rfl rfl dL_wind_20 (Nat.le_of_ble_eq_true rfl) (Nat.le_of_ble_eq_true rfl) ⟨rfl, rfl, hz2⟩
theorem wno_wind3 : Wno mL_wind mX7_wind [.int w0, .int w1] ISE 3 := by
  intro M z a o ⟨fs, hob⟩ ⟨fo, hfo⟩ hc
  refine runs_ofH plL (by decide) (Nat.le_of_ble_eq_true rfl) ?_
  show WP mL_wind 0 [some (.ref a), some (.int w0), some (.int w1), some (.ref o), none] [] M z 0 0 _
  refine g_aload_3 dL_wind_0 ?_
  refine g_iconst (v := nI 0) dL_wind_1 rfl ?_
  refine g_aload_0 dL_wind_2 ?_
  refine g_iload_1 dL_wind_3 ?_
  refine g_iload_2 dL_wind_4 ?_
  refine g_v2_x dL_wind_5 (vL_92 rfl) rfl hob (Nat.le_of_ble_eq_true rfl) (Nat.le_of_ble_eq_true rfl) (Nat.le_of_ble_eq_true rfl) hc (fun z2 hz2 => ?_)
  refine x_catch [⟨0, 10, 13, 20⟩, ⟨0, 10, 17, 13⟩] ⟨0, 10, 21, 15⟩ [] (by decide) rfl (fun q hq => by
      simp only [List.mem_cons, List.not_mem_nil, or_false] at hq
      rcases hq with rfl | rfl
      · exact ⟨by decide, IOE, xcL_20, by decide⟩
      · exact ⟨by decide, IAE, xcL_13, by decide⟩) rfl (by decide) xcL_15 gK_ISE (fun q => ?_)
  refine g_astore_4 rfl dL_wind_21 ?_
  refine g_iconst (v := nI 3) dL_wind_23 rfl ?_
  exact g_ireturn rfl rfl dL_wind_24 (Nat.le_of_ble_eq_true rfl) (Nat.le_of_ble_eq_true rfl) ⟨rfl, rfl, hz2⟩
theorem wok_mend : Wok mL_mend mX7_mend [.int w0] := by
  intro M z a o v Q ⟨fs, hob⟩ hc hQ
  refine runs_ofH plL (by decide) (Nat.le_of_ble_eq_true rfl) ?_
  show WP mL_mend 0 [some (.ref a), some (.int w0), some (.ref o), none] [] M z 0 0 _
  refine g_aload_2 dL_mend_0 ?_
  refine g_iconst (v := nI 0) dL_mend_1 rfl ?_
  refine g_aload_0 dL_mend_2 ?_
  refine g_iload_1 dL_mend_3 ?_
  refine g_v1 dL_mend_4 (vL_95 rfl) rfl hob (Nat.le_of_ble_eq_true rfl) (Nat.le_of_ble_eq_true rfl) (Nat.le_of_ble_eq_true rfl) (hc) (fun r M2 z2 hq => ?_) (fun E M2 z2 hq => by obtain ⟨hq, -⟩ := hq; cases hq)
  obtain ⟨hr, hq1⟩ := hq
  cases hr
  obtain ⟨fo, hfo⟩ := hQ _ _ hq1
  refine g_i2l dL_mend_7 ?_
  refine g_lastN dL_mend_8 hfo (by omega) (by decide) ?_
  refine g_goto (tgt := 18) dL_mend_9 (by decide) ?_
  refine g_iconst (v := nI 0) dL_mend_18 rfl ?_
  exact g_ireturn rfl rfl dL_mend_19 (Nat.le_of_ble_eq_true rfl) (Nat.le_of_ble_eq_true rfl) ⟨rfl, _, fo, hq1, hfo, rfl⟩
theorem wno_mend1 : Wno mL_mend mX7_mend [.int w0] IOE 1 := by
  intro M z a o ⟨fs, hob⟩ ⟨fo, hfo⟩ hc
  refine runs_ofH plL (by decide) (Nat.le_of_ble_eq_true rfl) ?_
  show WP mL_mend 0 [some (.ref a), some (.int w0), some (.ref o), none] [] M z 0 0 _
  refine g_aload_2 dL_mend_0 ?_
  refine g_iconst (v := nI 0) dL_mend_1 rfl ?_
  refine g_aload_0 dL_mend_2 ?_
  refine g_iload_1 dL_mend_3 ?_
  refine g_v1_x dL_mend_4 (vL_95 rfl) rfl hob (Nat.le_of_ble_eq_true rfl) (Nat.le_of_ble_eq_true rfl) (Nat.le_of_ble_eq_true rfl) hc (fun z2 hz2 => ?_)
  refine x_catch [] ⟨0, 9, 12, 20⟩ [⟨0, 9, 15, 15⟩] (by decide) rfl (fun q hq => absurd hq List.not_mem_nil) rfl (by decide) xcL_20 gK_IOE (fun q => ?_)
  refine g_astore_3 rfl dL_mend_12 ?_
  refine g_iconst (v := nI 1) dL_mend_13 rfl ?_
  exact g_ireturn rfl rfl dL_mend_14 (Nat.le_of_ble_eq_true rfl) (Nat.le_of_ble_eq_true rfl) ⟨rfl, rfl, hz2⟩
theorem wno_mend2 : Wno mL_mend mX7_mend [.int w0] ISE 2 := by
  intro M z a o ⟨fs, hob⟩ ⟨fo, hfo⟩ hc
  refine runs_ofH plL (by decide) (Nat.le_of_ble_eq_true rfl) ?_
  show WP mL_mend 0 [some (.ref a), some (.int w0), some (.ref o), none] [] M z 0 0 _
  refine g_aload_2 dL_mend_0 ?_
  refine g_iconst (v := nI 0) dL_mend_1 rfl ?_
  refine g_aload_0 dL_mend_2 ?_
  refine g_iload_1 dL_mend_3 ?_
  refine g_v1_x dL_mend_4 (vL_95 rfl) rfl hob (Nat.le_of_ble_eq_true rfl) (Nat.le_of_ble_eq_true rfl) (Nat.le_of_ble_eq_true rfl) hc (fun z2 hz2 => ?_)
  refine x_catch [⟨0, 9, 12, 20⟩] ⟨0, 9, 15, 15⟩ [] (by decide) rfl (fun q hq => by
      simp only [List.mem_cons, List.not_mem_nil, or_false] at hq
      subst hq
      exact ⟨by decide, IOE, xcL_20, by decide⟩) rfl (by decide) xcL_15 gK_ISE (fun q => ?_)
  refine g_astore_3 rfl dL_mend_15 ?_
  refine g_iconst (v := nI 2) dL_mend_16 rfl ?_
  exact g_ireturn rfl rfl dL_mend_17 (Nat.le_of_ble_eq_true rfl) (Nat.le_of_ble_eq_true rfl) ⟨rfl, rfl, hz2⟩
theorem wok_unpick : Wok mL_unpick mX7_unpick [.int w0] := by
  intro M z a o v Q ⟨fs, hob⟩ hc hQ
  refine runs_ofH plL (by decide) (Nat.le_of_ble_eq_true rfl) ?_
  show WP mL_unpick 0 [some (.ref a), some (.int w0), some (.ref o), none] [] M z 0 0 _
  refine g_aload_2 dL_unpick_0 ?_
  refine g_iconst (v := nI 0) dL_unpick_1 rfl ?_
  refine g_aload_0 dL_unpick_2 ?_
  refine g_iload_1 dL_unpick_3 ?_
  refine g_v1 dL_unpick_4 (vL_98 rfl) rfl hob (Nat.le_of_ble_eq_true rfl) (Nat.le_of_ble_eq_true rfl) (Nat.le_of_ble_eq_true rfl) (hc) (fun r M2 z2 hq => ?_) (fun E M2 z2 hq => by obtain ⟨hq, -⟩ := hq; cases hq)
  obtain ⟨hr, hq1⟩ := hq
  cases hr
  obtain ⟨fo, hfo⟩ := hQ _ _ hq1
  refine g_i2l dL_unpick_7 ?_
  refine g_lastN dL_unpick_8 hfo (by omega) (by decide) ?_
  refine g_goto (tgt := 18) dL_unpick_9 (by decide) ?_
  refine g_iconst (v := nI 0) dL_unpick_18 rfl ?_
  exact g_ireturn rfl rfl dL_unpick_19 (Nat.le_of_ble_eq_true rfl) (Nat.le_of_ble_eq_true rfl) ⟨rfl, _, fo, hq1, hfo, rfl⟩
theorem wno_unpick1 : Wno mL_unpick mX7_unpick [.int w0] IOE 1 := by
  intro M z a o ⟨fs, hob⟩ ⟨fo, hfo⟩ hc
  refine runs_ofH plL (by decide) (Nat.le_of_ble_eq_true rfl) ?_
  show WP mL_unpick 0 [some (.ref a), some (.int w0), some (.ref o), none] [] M z 0 0 _
  refine g_aload_2 dL_unpick_0 ?_
  refine g_iconst (v := nI 0) dL_unpick_1 rfl ?_
  refine g_aload_0 dL_unpick_2 ?_
  refine g_iload_1 dL_unpick_3 ?_
  refine g_v1_x dL_unpick_4 (vL_98 rfl) rfl hob (Nat.le_of_ble_eq_true rfl) (Nat.le_of_ble_eq_true rfl) (Nat.le_of_ble_eq_true rfl) hc (fun z2 hz2 => ?_)
  refine x_catch [] ⟨0, 9, 12, 20⟩ [⟨0, 9, 15, 15⟩] (by decide) rfl (fun q hq => absurd hq List.not_mem_nil) rfl (by decide) xcL_20 gK_IOE (fun q => ?_)
  refine g_astore_3 rfl dL_unpick_12 ?_
  refine g_iconst (v := nI 1) dL_unpick_13 rfl ?_
  exact g_ireturn rfl rfl dL_unpick_14 (Nat.le_of_ble_eq_true rfl) (Nat.le_of_ble_eq_true rfl) ⟨rfl, rfl, hz2⟩
theorem wno_unpick2 : Wno mL_unpick mX7_unpick [.int w0] ISE 2 := by
  intro M z a o ⟨fs, hob⟩ ⟨fo, hfo⟩ hc
  refine runs_ofH plL (by decide) (Nat.le_of_ble_eq_true rfl) ?_
  show WP mL_unpick 0 [some (.ref a), some (.int w0), some (.ref o), none] [] M z 0 0 _
  refine g_aload_2 dL_unpick_0 ?_
  refine g_iconst (v := nI 0) dL_unpick_1 rfl ?_
  refine g_aload_0 dL_unpick_2 ?_
  refine g_iload_1 dL_unpick_3 ?_
  refine g_v1_x dL_unpick_4 (vL_98 rfl) rfl hob (Nat.le_of_ble_eq_true rfl) (Nat.le_of_ble_eq_true rfl) (Nat.le_of_ble_eq_true rfl) hc (fun z2 hz2 => ?_)
  refine x_catch [⟨0, 9, 12, 20⟩] ⟨0, 9, 15, 15⟩ [] (by decide) rfl (fun q hq => by
      simp only [List.mem_cons, List.not_mem_nil, or_false] at hq
      subst hq
      exact ⟨by decide, IOE, xcL_20, by decide⟩) rfl (by decide) xcL_15 gK_ISE (fun q => ?_)
  refine g_astore_3 rfl dL_unpick_15 ?_
  refine g_iconst (v := nI 2) dL_unpick_16 rfl ?_
  exact g_ireturn rfl rfl dL_unpick_17 (Nat.le_of_ble_eq_true rfl) (Nat.le_of_ble_eq_true rfl) ⟨rfl, rfl, hz2⟩
theorem wok_shear : Wok mL_shear mX7_shear [.int w0] := by
  intro M z a o v Q ⟨fs, hob⟩ hc hQ
  refine runs_ofH plL (by decide) (Nat.le_of_ble_eq_true rfl) ?_
  show WP mL_shear 0 [some (.ref a), some (.int w0), some (.ref o), none] [] M z 0 0 _
  refine g_aload_2 dL_shear_0 ?_
  refine g_iconst (v := nI 0) dL_shear_1 rfl ?_
  refine g_aload_0 dL_shear_2 ?_
  refine g_iload_1 dL_shear_3 ?_
  refine g_v1 dL_shear_4 (vL_101 rfl) rfl hob (Nat.le_of_ble_eq_true rfl) (Nat.le_of_ble_eq_true rfl) (Nat.le_of_ble_eq_true rfl) (hc) (fun r M2 z2 hq => ?_) (fun E M2 z2 hq => by obtain ⟨hq, -⟩ := hq; cases hq)
  obtain ⟨hr, hq1⟩ := hq
  cases hr
  obtain ⟨fo, hfo⟩ := hQ _ _ hq1
  refine g_i2l dL_shear_7 ?_
  refine g_lastN dL_shear_8 hfo (by omega) (by decide) ?_
  refine g_goto (tgt := 15) dL_shear_9 (by decide) ?_
  refine g_iconst (v := nI 0) dL_shear_15 rfl ?_
  exact g_ireturn rfl rfl dL_shear_16 (Nat.le_of_ble_eq_true rfl) (Nat.le_of_ble_eq_true rfl) ⟨rfl, _, fo, hq1, hfo, rfl⟩
theorem wno_shear1 : Wno mL_shear mX7_shear [.int w0] IAE 1 := by
  intro M z a o ⟨fs, hob⟩ ⟨fo, hfo⟩ hc
  refine runs_ofH plL (by decide) (Nat.le_of_ble_eq_true rfl) ?_
  show WP mL_shear 0 [some (.ref a), some (.int w0), some (.ref o), none] [] M z 0 0 _
  refine g_aload_2 dL_shear_0 ?_
  refine g_iconst (v := nI 0) dL_shear_1 rfl ?_
  refine g_aload_0 dL_shear_2 ?_
  refine g_iload_1 dL_shear_3 ?_
  refine g_v1_x dL_shear_4 (vL_101 rfl) rfl hob (Nat.le_of_ble_eq_true rfl) (Nat.le_of_ble_eq_true rfl) (Nat.le_of_ble_eq_true rfl) hc (fun z2 hz2 => ?_)
  refine x_catch [] ⟨0, 9, 12, 13⟩ [] (by decide) rfl (fun q hq => absurd hq List.not_mem_nil) rfl (by decide) xcL_13 gK_IAE (fun q => ?_)
  refine g_astore_3 rfl dL_shear_12 ?_
  refine g_iconst (v := nI 1) dL_shear_13 rfl ?_
  exact g_ireturn rfl rfl dL_shear_14 (Nat.le_of_ble_eq_true rfl) (Nat.le_of_ble_eq_true rfl) ⟨rfl, rfl, hz2⟩
theorem wok_store : Wok mL_store mX7_store [.int w0] := by
  intro M z a o v Q ⟨fs, hob⟩ hc hQ
  refine runs_ofH plL (by decide) (Nat.le_of_ble_eq_true rfl) ?_
  show WP mL_store 0 [some (.ref a), some (.int w0), some (.ref o), none] [] M z 0 0 _
  refine g_aload_2 dL_store_0 ?_
  refine g_iconst (v := nI 0) dL_store_1 rfl ?_
  refine g_aload_0 dL_store_2 ?_
  refine g_iload_1 dL_store_3 ?_
  refine g_v1 dL_store_4 (vL_104 rfl) rfl hob (Nat.le_of_ble_eq_true rfl) (Nat.le_of_ble_eq_true rfl) (Nat.le_of_ble_eq_true rfl) (hc) (fun r M2 z2 hq => ?_) (fun E M2 z2 hq => by obtain ⟨hq, -⟩ := hq; cases hq)
  obtain ⟨hr, hq1⟩ := hq
  cases hr
  obtain ⟨fo, hfo⟩ := hQ _ _ hq1
  refine g_i2l dL_store_7 ?_
  refine g_lastN dL_store_8 hfo (by omega) (by decide) ?_
  refine g_goto (tgt := 18) dL_store_9 (by decide) ?_
  refine g_iconst (v := nI 0) dL_store_18 rfl ?_
  exact g_ireturn rfl rfl dL_store_19 (Nat.le_of_ble_eq_true rfl) (Nat.le_of_ble_eq_true rfl) ⟨rfl, _, fo, hq1, hfo, rfl⟩
theorem wno_store1 : Wno mL_store mX7_store [.int w0] IOE 1 := by
  intro M z a o ⟨fs, hob⟩ ⟨fo, hfo⟩ hc
  refine runs_ofH plL (by decide) (Nat.le_of_ble_eq_true rfl) ?_
  show WP mL_store 0 [some (.ref a), some (.int w0), some (.ref o), none] [] M z 0 0 _
  refine g_aload_2 dL_store_0 ?_
  refine g_iconst (v := nI 0) dL_store_1 rfl ?_
  refine g_aload_0 dL_store_2 ?_
  refine g_iload_1 dL_store_3 ?_
  refine g_v1_x dL_store_4 (vL_104 rfl) rfl hob (Nat.le_of_ble_eq_true rfl) (Nat.le_of_ble_eq_true rfl) (Nat.le_of_ble_eq_true rfl) hc (fun z2 hz2 => ?_)
  refine x_catch [] ⟨0, 9, 12, 20⟩ [⟨0, 9, 15, 15⟩] (by decide) rfl (fun q hq => absurd hq List.not_mem_nil) rfl (by decide) xcL_20 gK_IOE (fun q => ?_)
  refine g_astore_3 rfl dL_store_12 ?_
  refine g_iconst (v := nI 1) dL_store_13 rfl ?_
  exact g_ireturn rfl rfl dL_store_14 (Nat.le_of_ble_eq_true rfl) (Nat.le_of_ble_eq_true rfl) ⟨rfl, rfl, hz2⟩
theorem wno_store2 : Wno mL_store mX7_store [.int w0] ISE 2 := by
  intro M z a o ⟨fs, hob⟩ ⟨fo, hfo⟩ hc
  refine runs_ofH plL (by decide) (Nat.le_of_ble_eq_true rfl) ?_
  show WP mL_store 0 [some (.ref a), some (.int w0), some (.ref o), none] [] M z 0 0 _
  refine g_aload_2 dL_store_0 ?_
  refine g_iconst (v := nI 0) dL_store_1 rfl ?_
  refine g_aload_0 dL_store_2 ?_
  refine g_iload_1 dL_store_3 ?_
  refine g_v1_x dL_store_4 (vL_104 rfl) rfl hob (Nat.le_of_ble_eq_true rfl) (Nat.le_of_ble_eq_true rfl) (Nat.le_of_ble_eq_true rfl) hc (fun z2 hz2 => ?_)
  refine x_catch [⟨0, 9, 12, 20⟩] ⟨0, 9, 15, 15⟩ [] (by decide) rfl (fun q hq => by
      simp only [List.mem_cons, List.not_mem_nil, or_false] at hq
      subst hq
      exact ⟨by decide, IOE, xcL_20, by decide⟩) rfl (by decide) xcL_15 gK_ISE (fun q => ?_)
  refine g_astore_3 rfl dL_store_15 ?_
  refine g_iconst (v := nI 2) dL_store_16 rfl ?_
  exact g_ireturn rfl rfl dL_store_17 (Nat.le_of_ble_eq_true rfl) (Nat.le_of_ble_eq_true rfl) ⟨rfl, rfl, hz2⟩
theorem wok_run : Wok mL_run mX7_run [.int w0] := by
  intro M z a o v Q ⟨fs, hob⟩ hc hQ
  refine runs_ofH plL (by decide) (Nat.le_of_ble_eq_true rfl) ?_
  show WP mL_run 0 [some (.ref a), some (.int w0), some (.ref o), none] [] M z 0 0 _
  refine g_aload_2 dL_run_0 ?_
  refine g_iconst (v := nI 0) dL_run_1 rfl ?_
  refine g_aload_0 dL_run_2 ?_
  refine g_iload_1 dL_run_3 ?_
  refine g_v1 dL_run_4 (vL_107 rfl) rfl hob (Nat.le_of_ble_eq_true rfl) (Nat.le_of_ble_eq_true rfl) (Nat.le_of_ble_eq_true rfl) (hc) (fun r M2 z2 hq => ?_) (fun E M2 z2 hq => by obtain ⟨hq, -⟩ := hq; cases hq)
  obtain ⟨hr, hq1⟩ := hq
  cases hr
  obtain ⟨fo, hfo⟩ := hQ _ _ hq1
  refine g_i2l dL_run_7 ?_
  refine g_lastN dL_run_8 hfo (by omega) (by decide) ?_
  refine g_goto (tgt := 18) dL_run_9 (by decide) ?_
  refine g_iconst (v := nI 0) dL_run_18 rfl ?_
  exact g_ireturn rfl rfl dL_run_19 (Nat.le_of_ble_eq_true rfl) (Nat.le_of_ble_eq_true rfl) ⟨rfl, _, fo, hq1, hfo, rfl⟩
theorem wno_run1 : Wno mL_run mX7_run [.int w0] IOE 1 := by
  intro M z a o ⟨fs, hob⟩ ⟨fo, hfo⟩ hc
  refine runs_ofH plL (by decide) (Nat.le_of_ble_eq_true rfl) ?_
  show WP mL_run 0 [some (.ref a), some (.int w0), some (.ref o), none] [] M z 0 0 _
  refine g_aload_2 dL_run_0 ?_
  refine g_iconst (v := nI 0) dL_run_1 rfl ?_
  refine g_aload_0 dL_run_2 ?_
  refine g_iload_1 dL_run_3 ?_
  refine g_v1_x dL_run_4 (vL_107 rfl) rfl hob (Nat.le_of_ble_eq_true rfl) (Nat.le_of_ble_eq_true rfl) (Nat.le_of_ble_eq_true rfl) hc (fun z2 hz2 => ?_)
  refine x_catch [] ⟨0, 9, 12, 20⟩ [⟨0, 9, 15, 15⟩] (by decide) rfl (fun q hq => absurd hq List.not_mem_nil) rfl (by decide) xcL_20 gK_IOE (fun q => ?_)
  refine g_astore_3 rfl dL_run_12 ?_
  refine g_iconst (v := nI 1) dL_run_13 rfl ?_
  exact g_ireturn rfl rfl dL_run_14 (Nat.le_of_ble_eq_true rfl) (Nat.le_of_ble_eq_true rfl) ⟨rfl, rfl, hz2⟩
theorem wno_run2 : Wno mL_run mX7_run [.int w0] ISE 2 := by
  intro M z a o ⟨fs, hob⟩ ⟨fo, hfo⟩ hc
  refine runs_ofH plL (by decide) (Nat.le_of_ble_eq_true rfl) ?_
  show WP mL_run 0 [some (.ref a), some (.int w0), some (.ref o), none] [] M z 0 0 _
  refine g_aload_2 dL_run_0 ?_
  refine g_iconst (v := nI 0) dL_run_1 rfl ?_
  refine g_aload_0 dL_run_2 ?_
  refine g_iload_1 dL_run_3 ?_
  refine g_v1_x dL_run_4 (vL_107 rfl) rfl hob (Nat.le_of_ble_eq_true rfl) (Nat.le_of_ble_eq_true rfl) (Nat.le_of_ble_eq_true rfl) hc (fun z2 hz2 => ?_)
  refine x_catch [⟨0, 9, 12, 20⟩] ⟨0, 9, 15, 15⟩ [] (by decide) rfl (fun q hq => by
      simp only [List.mem_cons, List.not_mem_nil, or_false] at hq
      subst hq
      exact ⟨by decide, IOE, xcL_20, by decide⟩) rfl (by decide) xcL_15 gK_ISE (fun q => ?_)
  refine g_astore_3 rfl dL_run_15 ?_
  refine g_iconst (v := nI 2) dL_run_16 rfl ?_
  exact g_ireturn rfl rfl dL_run_17 (Nat.le_of_ble_eq_true rfl) (Nat.le_of_ble_eq_true rfl) ⟨rfl, rfl, hz2⟩
theorem wok_runText : Wok mL_runText mX7_runText [] := by
  intro M z a o v Q ⟨fs, hob⟩ hc hQ
  refine runs_ofH plL (by decide) (Nat.le_of_ble_eq_true rfl) ?_
  show WP mL_runText 0 [some (.ref a), some (.ref o), none] [] M z 0 0 _
  refine g_aload_1 dL_runText_0 ?_
  refine g_iconst (v := nI 0) dL_runText_1 rfl ?_
  refine g_aload_0 dL_runText_2 ?_
  refine g_v0 dL_runText_3 (vL_110 rfl) rfl hob (Nat.le_of_ble_eq_true rfl) (Nat.le_of_ble_eq_true rfl) (Nat.le_of_ble_eq_true rfl) (hc) (fun r M2 z2 hq => ?_) (fun E M2 z2 hq => by obtain ⟨hq, -⟩ := hq; cases hq)
  obtain ⟨hr, hq1⟩ := hq
  cases hr
  obtain ⟨fo, hfo⟩ := hQ _ _ hq1
  refine g_i2l dL_runText_6 ?_
  refine g_lastN dL_runText_7 hfo (by omega) (by decide) ?_
  refine g_goto (tgt := 14) dL_runText_8 (by decide) ?_
  refine g_iconst (v := nI 0) dL_runText_14 rfl ?_
  exact g_ireturn rfl rfl dL_runText_15 (Nat.le_of_ble_eq_true rfl) (Nat.le_of_ble_eq_true rfl) ⟨rfl, _, fo, hq1, hfo, rfl⟩
theorem wno_runText1 : Wno mL_runText mX7_runText [] ISE 1 := by
  intro M z a o ⟨fs, hob⟩ ⟨fo, hfo⟩ hc
  refine runs_ofH plL (by decide) (Nat.le_of_ble_eq_true rfl) ?_
  show WP mL_runText 0 [some (.ref a), some (.ref o), none] [] M z 0 0 _
  refine g_aload_1 dL_runText_0 ?_
  refine g_iconst (v := nI 0) dL_runText_1 rfl ?_
  refine g_aload_0 dL_runText_2 ?_
  refine g_v0_x dL_runText_3 (vL_110 rfl) rfl hob (Nat.le_of_ble_eq_true rfl) (Nat.le_of_ble_eq_true rfl) (Nat.le_of_ble_eq_true rfl) hc (fun z2 hz2 => ?_)
  refine x_catch [] ⟨0, 8, 11, 15⟩ [] (by decide) rfl (fun q hq => absurd hq List.not_mem_nil) rfl (by decide) xcL_15 gK_ISE (fun q => ?_)
  refine g_astore_2 rfl dL_runText_11 ?_
  refine g_iconst (v := nI 1) dL_runText_12 rfl ?_
  exact g_ireturn rfl rfl dL_runText_13 (Nat.le_of_ble_eq_true rfl) (Nat.le_of_ble_eq_true rfl) ⟨rfl, rfl, hz2⟩
theorem wok_undo : Wok mL_undo mX7_undo [] := by
  intro M z a o v Q ⟨fs, hob⟩ hc hQ
  refine runs_ofH plL (by decide) (Nat.le_of_ble_eq_true rfl) ?_
  show WP mL_undo 0 [some (.ref a), some (.ref o), none] [] M z 0 0 _
  refine g_aload_1 dL_undo_0 ?_
  refine g_iconst (v := nI 0) dL_undo_1 rfl ?_
  refine g_aload_0 dL_undo_2 ?_
  refine g_v0 dL_undo_3 (vL_113 rfl) rfl hob (Nat.le_of_ble_eq_true rfl) (Nat.le_of_ble_eq_true rfl) (Nat.le_of_ble_eq_true rfl) (hc) (fun r M2 z2 hq => ?_) (fun E M2 z2 hq => by obtain ⟨hq, -⟩ := hq; cases hq)
  obtain ⟨hr, hq1⟩ := hq
  cases hr
  obtain ⟨fo, hfo⟩ := hQ _ _ hq1
  refine g_i2l dL_undo_6 ?_
  refine g_lastN dL_undo_7 hfo (by omega) (by decide) ?_
  refine g_goto (tgt := 14) dL_undo_8 (by decide) ?_
  refine g_iconst (v := nI 0) dL_undo_14 rfl ?_
  exact g_ireturn rfl rfl dL_undo_15 (Nat.le_of_ble_eq_true rfl) (Nat.le_of_ble_eq_true rfl) ⟨rfl, _, fo, hq1, hfo, rfl⟩
theorem wno_undo1 : Wno mL_undo mX7_undo [] ISE 1 := by
  intro M z a o ⟨fs, hob⟩ ⟨fo, hfo⟩ hc
  refine runs_ofH plL (by decide) (Nat.le_of_ble_eq_true rfl) ?_
  show WP mL_undo 0 [some (.ref a), some (.ref o), none] [] M z 0 0 _
  refine g_aload_1 dL_undo_0 ?_
  refine g_iconst (v := nI 0) dL_undo_1 rfl ?_
  refine g_aload_0 dL_undo_2 ?_
  refine g_v0_x dL_undo_3 (vL_113 rfl) rfl hob (Nat.le_of_ble_eq_true rfl) (Nat.le_of_ble_eq_true rfl) (Nat.le_of_ble_eq_true rfl) hc (fun z2 hz2 => ?_)
  refine x_catch [] ⟨0, 8, 11, 15⟩ [] (by decide) rfl (fun q hq => absurd hq List.not_mem_nil) rfl (by decide) xcL_15 gK_ISE (fun q => ?_)
  refine g_astore_2 rfl dL_undo_11 ?_
  refine g_iconst (v := nI 1) dL_undo_12 rfl ?_
  exact g_ireturn rfl rfl dL_undo_13 (Nat.le_of_ble_eq_true rfl) (Nat.le_of_ble_eq_true rfl) ⟨rfl, rfl, hz2⟩
theorem wok_whyNoMending : Wok mL_whyNoMending mX7_whyNoMending [.int w0] := by
  intro M z a o v Q ⟨fs, hob⟩ hc hQ
  refine runs_ofH plL (by decide) (Nat.le_of_ble_eq_true rfl) ?_
  show WP mL_whyNoMending 0 [some (.ref a), some (.int w0), some (.ref o), none] [] M z 0 0 _
  refine g_aload_2 dL_whyNoMending_0 ?_
  refine g_iconst (v := nI 0) dL_whyNoMending_1 rfl ?_
  refine g_aload_0 dL_whyNoMending_2 ?_
  refine g_iload_1 dL_whyNoMending_3 ?_
  refine g_v1 dL_whyNoMending_4 (vL_116 rfl) rfl hob (Nat.le_of_ble_eq_true rfl) (Nat.le_of_ble_eq_true rfl) (Nat.le_of_ble_eq_true rfl) (hc) (fun r M2 z2 hq => ?_) (fun E M2 z2 hq => by obtain ⟨hq, -⟩ := hq; cases hq)
  obtain ⟨hr, hq1⟩ := hq
  cases hr
  obtain ⟨fo, hfo⟩ := hQ _ _ hq1
  refine g_i2l dL_whyNoMending_7 ?_
  refine g_lastN dL_whyNoMending_8 hfo (by omega) (by decide) ?_
  refine g_goto (tgt := 15) dL_whyNoMending_9 (by decide) ?_
  refine g_iconst (v := nI 0) dL_whyNoMending_15 rfl ?_
  exact g_ireturn rfl rfl dL_whyNoMending_16 (Nat.le_of_ble_eq_true rfl) (Nat.le_of_ble_eq_true rfl) ⟨rfl, _, fo, hq1, hfo, rfl⟩
theorem wno_whyNoMending1 : Wno mL_whyNoMending mX7_whyNoMending [.int w0] IOE 1 := by
  intro M z a o ⟨fs, hob⟩ ⟨fo, hfo⟩ hc
  refine runs_ofH plL (by decide) (Nat.le_of_ble_eq_true rfl) ?_
  show WP mL_whyNoMending 0 [some (.ref a), some (.int w0), some (.ref o), none] [] M z 0 0 _
  refine g_aload_2 dL_whyNoMending_0 ?_
  refine g_iconst (v := nI 0) dL_whyNoMending_1 rfl ?_
  refine g_aload_0 dL_whyNoMending_2 ?_
  refine g_iload_1 dL_whyNoMending_3 ?_
  refine g_v1_x dL_whyNoMending_4 (vL_116 rfl) rfl hob (Nat.le_of_ble_eq_true rfl) (Nat.le_of_ble_eq_true rfl) (Nat.le_of_ble_eq_true rfl) hc (fun z2 hz2 => ?_)
  refine x_catch [] ⟨0, 9, 12, 20⟩ [] (by decide) rfl (fun q hq => absurd hq List.not_mem_nil) rfl (by decide) xcL_20 gK_IOE (fun q => ?_)
  refine g_astore_3 rfl dL_whyNoMending_12 ?_
  refine g_iconst (v := nI 1) dL_whyNoMending_13 rfl ?_
  exact g_ireturn rfl rfl dL_whyNoMending_14 (Nat.le_of_ble_eq_true rfl) (Nat.le_of_ble_eq_true rfl) ⟨rfl, rfl, hz2⟩
theorem wok_nearestByRings : Wok mL_nearestByRings mX7_nearestByRings [.int w0] := by
  intro M z a o v Q ⟨fs, hob⟩ hc hQ
  refine runs_ofH plL (by decide) (Nat.le_of_ble_eq_true rfl) ?_
  show WP mL_nearestByRings 0 [some (.ref a), some (.int w0), some (.ref o), none] [] M z 0 0 _
  refine g_aload_2 dL_nearestByRings_0 ?_
  refine g_iconst (v := nI 0) dL_nearestByRings_1 rfl ?_
  refine g_aload_0 dL_nearestByRings_2 ?_
  refine g_iload_1 dL_nearestByRings_3 ?_
  refine g_v1 dL_nearestByRings_4 (vL_119 rfl) rfl hob (Nat.le_of_ble_eq_true rfl) (Nat.le_of_ble_eq_true rfl) (Nat.le_of_ble_eq_true rfl) (hc) (fun r M2 z2 hq => ?_) (fun E M2 z2 hq => by obtain ⟨hq, -⟩ := hq; cases hq)
  obtain ⟨hr, hq1⟩ := hq
  cases hr
  obtain ⟨fo, hfo⟩ := hQ _ _ hq1
  refine g_i2l dL_nearestByRings_7 ?_
  refine g_lastN dL_nearestByRings_8 hfo (by omega) (by decide) ?_
  refine g_goto (tgt := 15) dL_nearestByRings_9 (by decide) ?_
  refine g_iconst (v := nI 0) dL_nearestByRings_15 rfl ?_
  exact g_ireturn rfl rfl dL_nearestByRings_16 (Nat.le_of_ble_eq_true rfl) (Nat.le_of_ble_eq_true rfl) ⟨rfl, _, fo, hq1, hfo, rfl⟩
theorem wno_nearestByRings1 : Wno mL_nearestByRings mX7_nearestByRings [.int w0] IOE 1 := by
  intro M z a o ⟨fs, hob⟩ ⟨fo, hfo⟩ hc
  refine runs_ofH plL (by decide) (Nat.le_of_ble_eq_true rfl) ?_
  show WP mL_nearestByRings 0 [some (.ref a), some (.int w0), some (.ref o), none] [] M z 0 0 _
  refine g_aload_2 dL_nearestByRings_0 ?_
  refine g_iconst (v := nI 0) dL_nearestByRings_1 rfl ?_
  refine g_aload_0 dL_nearestByRings_2 ?_
  refine g_iload_1 dL_nearestByRings_3 ?_
  refine g_v1_x dL_nearestByRings_4 (vL_119 rfl) rfl hob (Nat.le_of_ble_eq_true rfl) (Nat.le_of_ble_eq_true rfl) (Nat.le_of_ble_eq_true rfl) hc (fun z2 hz2 => ?_)
  refine x_catch [] ⟨0, 9, 12, 20⟩ [] (by decide) rfl (fun q hq => absurd hq List.not_mem_nil) rfl (by decide) xcL_20 gK_IOE (fun q => ?_)
  refine g_astore_3 rfl dL_nearestByRings_12 ?_
  refine g_iconst (v := nI 1) dL_nearestByRings_13 rfl ?_
  exact g_ireturn rfl rfl dL_nearestByRings_14 (Nat.le_of_ble_eq_true rfl) (Nat.le_of_ble_eq_true rfl) ⟨rfl, rfl, hz2⟩
theorem wok_nearestByCells : Wok mL_nearestByCells mX7_nearestByCells [.int w0] := by
  intro M z a o v Q ⟨fs, hob⟩ hc hQ
  refine runs_ofH plL (by decide) (Nat.le_of_ble_eq_true rfl) ?_
  show WP mL_nearestByCells 0 [some (.ref a), some (.int w0), some (.ref o), none] [] M z 0 0 _
  refine g_aload_2 dL_nearestByCells_0 ?_
  refine g_iconst (v := nI 0) dL_nearestByCells_1 rfl ?_
  refine g_aload_0 dL_nearestByCells_2 ?_
  refine g_iload_1 dL_nearestByCells_3 ?_
  refine g_v1 dL_nearestByCells_4 (vL_122 rfl) rfl hob (Nat.le_of_ble_eq_true rfl) (Nat.le_of_ble_eq_true rfl) (Nat.le_of_ble_eq_true rfl) (hc) (fun r M2 z2 hq => ?_) (fun E M2 z2 hq => by obtain ⟨hq, -⟩ := hq; cases hq)
  obtain ⟨hr, hq1⟩ := hq
  cases hr
  obtain ⟨fo, hfo⟩ := hQ _ _ hq1
  refine g_i2l dL_nearestByCells_7 ?_
  refine g_lastN dL_nearestByCells_8 hfo (by omega) (by decide) ?_
  refine g_goto (tgt := 15) dL_nearestByCells_9 (by decide) ?_
  refine g_iconst (v := nI 0) dL_nearestByCells_15 rfl ?_
  exact g_ireturn rfl rfl dL_nearestByCells_16 (Nat.le_of_ble_eq_true rfl) (Nat.le_of_ble_eq_true rfl) ⟨rfl, _, fo, hq1, hfo, rfl⟩
theorem wno_nearestByCells1 : Wno mL_nearestByCells mX7_nearestByCells [.int w0] IOE 1 := by
  intro M z a o ⟨fs, hob⟩ ⟨fo, hfo⟩ hc
  refine runs_ofH plL (by decide) (Nat.le_of_ble_eq_true rfl) ?_
  show WP mL_nearestByCells 0 [some (.ref a), some (.int w0), some (.ref o), none] [] M z 0 0 _
  refine g_aload_2 dL_nearestByCells_0 ?_
  refine g_iconst (v := nI 0) dL_nearestByCells_1 rfl ?_
  refine g_aload_0 dL_nearestByCells_2 ?_
  refine g_iload_1 dL_nearestByCells_3 ?_
  refine g_v1_x dL_nearestByCells_4 (vL_122 rfl) rfl hob (Nat.le_of_ble_eq_true rfl) (Nat.le_of_ble_eq_true rfl) (Nat.le_of_ble_eq_true rfl) hc (fun z2 hz2 => ?_)
  refine x_catch [] ⟨0, 9, 12, 20⟩ [] (by decide) rfl (fun q hq => absurd hq List.not_mem_nil) rfl (by decide) xcL_20 gK_IOE (fun q => ?_)
  refine g_astore_3 rfl dL_nearestByCells_12 ?_
  refine g_iconst (v := nI 1) dL_nearestByCells_13 rfl ?_
  exact g_ireturn rfl rfl dL_nearestByCells_14 (Nat.le_of_ble_eq_true rfl) (Nat.le_of_ble_eq_true rfl) ⟨rfl, rfl, hz2⟩
theorem wok_loopsBy : Wok mL_loopsBy mX7_loopsBy [] := by
  intro M z a o v Q ⟨fs, hob⟩ hc hQ
  refine runs_ofH plL (by decide) (Nat.le_of_ble_eq_true rfl) ?_
  show WP mL_loopsBy 0 [some (.ref a), some (.ref o), none] [] M z 0 0 _
  refine g_aload_1 dL_loopsBy_0 ?_
  refine g_iconst (v := nI 0) dL_loopsBy_1 rfl ?_
  refine g_aload_0 dL_loopsBy_2 ?_
  refine g_v0 dL_loopsBy_3 (vL_125 rfl) rfl hob (Nat.le_of_ble_eq_true rfl) (Nat.le_of_ble_eq_true rfl) (Nat.le_of_ble_eq_true rfl) (hc) (fun r M2 z2 hq => ?_) (fun E M2 z2 hq => by obtain ⟨hq, -⟩ := hq; cases hq)
  obtain ⟨hr, hq1⟩ := hq
  cases hr
  obtain ⟨fo, hfo⟩ := hQ _ _ hq1
  refine g_i2l dL_loopsBy_6 ?_
  refine g_lastN dL_loopsBy_7 hfo (by omega) (by decide) ?_
  refine g_goto (tgt := 14) dL_loopsBy_8 (by decide) ?_
  refine g_iconst (v := nI 0) dL_loopsBy_14 rfl ?_
  exact g_ireturn rfl rfl dL_loopsBy_15 (Nat.le_of_ble_eq_true rfl) (Nat.le_of_ble_eq_true rfl) ⟨rfl, _, fo, hq1, hfo, rfl⟩
theorem wno_loopsBy1 : Wno mL_loopsBy mX7_loopsBy [] ISE 1 := by
  intro M z a o ⟨fs, hob⟩ ⟨fo, hfo⟩ hc
  refine runs_ofH plL (by decide) (Nat.le_of_ble_eq_true rfl) ?_
  show WP mL_loopsBy 0 [some (.ref a), some (.ref o), none] [] M z 0 0 _
  refine g_aload_1 dL_loopsBy_0 ?_
  refine g_iconst (v := nI 0) dL_loopsBy_1 rfl ?_
  refine g_aload_0 dL_loopsBy_2 ?_
  refine g_v0_x dL_loopsBy_3 (vL_125 rfl) rfl hob (Nat.le_of_ble_eq_true rfl) (Nat.le_of_ble_eq_true rfl) (Nat.le_of_ble_eq_true rfl) hc (fun z2 hz2 => ?_)
  refine x_catch [] ⟨0, 8, 11, 15⟩ [] (by decide) rfl (fun q hq => absurd hq List.not_mem_nil) rfl (by decide) xcL_15 gK_ISE (fun q => ?_)
  refine g_astore_2 rfl dL_loopsBy_11 ?_
  refine g_iconst (v := nI 1) dL_loopsBy_12 rfl ?_
  exact g_ireturn rfl rfl dL_loopsBy_13 (Nat.le_of_ble_eq_true rfl) (Nat.le_of_ble_eq_true rfl) ⟨rfl, rfl, hz2⟩
theorem wok_needleBy : Wok mL_needleBy mX7_needleBy [] := by
  intro M z a o v Q ⟨fs, hob⟩ hc hQ
  refine runs_ofH plL (by decide) (Nat.le_of_ble_eq_true rfl) ?_
  show WP mL_needleBy 0 [some (.ref a), some (.ref o), none] [] M z 0 0 _
  refine g_aload_1 dL_needleBy_0 ?_
  refine g_iconst (v := nI 0) dL_needleBy_1 rfl ?_
  refine g_aload_0 dL_needleBy_2 ?_
  refine g_v0 dL_needleBy_3 (vL_128 rfl) rfl hob (Nat.le_of_ble_eq_true rfl) (Nat.le_of_ble_eq_true rfl) (Nat.le_of_ble_eq_true rfl) (hc) (fun r M2 z2 hq => ?_) (fun E M2 z2 hq => by obtain ⟨hq, -⟩ := hq; cases hq)
  obtain ⟨hr, hq1⟩ := hq
  cases hr
  obtain ⟨fo, hfo⟩ := hQ _ _ hq1
  refine g_i2l dL_needleBy_6 ?_
  refine g_lastN dL_needleBy_7 hfo (by omega) (by decide) ?_
  refine g_goto (tgt := 14) dL_needleBy_8 (by decide) ?_
  refine g_iconst (v := nI 0) dL_needleBy_14 rfl ?_
  exact g_ireturn rfl rfl dL_needleBy_15 (Nat.le_of_ble_eq_true rfl) (Nat.le_of_ble_eq_true rfl) ⟨rfl, _, fo, hq1, hfo, rfl⟩
theorem wno_needleBy1 : Wno mL_needleBy mX7_needleBy [] ISE 1 := by
  intro M z a o ⟨fs, hob⟩ ⟨fo, hfo⟩ hc
  refine runs_ofH plL (by decide) (Nat.le_of_ble_eq_true rfl) ?_
  show WP mL_needleBy 0 [some (.ref a), some (.ref o), none] [] M z 0 0 _
  refine g_aload_1 dL_needleBy_0 ?_
  refine g_iconst (v := nI 0) dL_needleBy_1 rfl ?_
  refine g_aload_0 dL_needleBy_2 ?_
  refine g_v0_x dL_needleBy_3 (vL_128 rfl) rfl hob (Nat.le_of_ble_eq_true rfl) (Nat.le_of_ble_eq_true rfl) (Nat.le_of_ble_eq_true rfl) hc (fun z2 hz2 => ?_)
  refine x_catch [] ⟨0, 8, 11, 15⟩ [] (by decide) rfl (fun q hq => absurd hq List.not_mem_nil) rfl (by decide) xcL_15 gK_ISE (fun q => ?_)
  refine g_astore_2 rfl dL_needleBy_11 ?_
  refine g_iconst (v := nI 1) dL_needleBy_12 rfl ?_
  exact g_ireturn rfl rfl dL_needleBy_13 (Nat.le_of_ble_eq_true rfl) (Nat.le_of_ble_eq_true rfl) ⟨rfl, rfl, hz2⟩
theorem wok_yarnBy : Wok mL_yarnBy mX7_yarnBy [.int w0] := by
  intro M z a o v Q ⟨fs, hob⟩ hc hQ
  refine runs_ofH plL (by decide) (Nat.le_of_ble_eq_true rfl) ?_
  show WP mL_yarnBy 0 [some (.ref a), some (.int w0), some (.ref o), none] [] M z 0 0 _
  refine g_aload_2 dL_yarnBy_0 ?_
  refine g_iconst (v := nI 0) dL_yarnBy_1 rfl ?_
  refine g_aload_0 dL_yarnBy_2 ?_
  refine g_iload_1 dL_yarnBy_3 ?_
  refine g_v1 dL_yarnBy_4 (vL_131 rfl) rfl hob (Nat.le_of_ble_eq_true rfl) (Nat.le_of_ble_eq_true rfl) (Nat.le_of_ble_eq_true rfl) (hc) (fun r M2 z2 hq => ?_) (fun E M2 z2 hq => by obtain ⟨hq, -⟩ := hq; cases hq)
  obtain ⟨hr, hq1⟩ := hq
  cases hr
  obtain ⟨fo, hfo⟩ := hQ _ _ hq1
  refine g_i2l dL_yarnBy_7 ?_
  refine g_lastN dL_yarnBy_8 hfo (by omega) (by decide) ?_
  refine g_goto (tgt := 18) dL_yarnBy_9 (by decide) ?_
  refine g_iconst (v := nI 0) dL_yarnBy_18 rfl ?_
  exact g_ireturn rfl rfl dL_yarnBy_19 (Nat.le_of_ble_eq_true rfl) (Nat.le_of_ble_eq_true rfl) ⟨rfl, _, fo, hq1, hfo, rfl⟩
theorem wno_yarnBy1 : Wno mL_yarnBy mX7_yarnBy [.int w0] IOE 1 := by
  intro M z a o ⟨fs, hob⟩ ⟨fo, hfo⟩ hc
  refine runs_ofH plL (by decide) (Nat.le_of_ble_eq_true rfl) ?_
  show WP mL_yarnBy 0 [some (.ref a), some (.int w0), some (.ref o), none] [] M z 0 0 _
  refine g_aload_2 dL_yarnBy_0 ?_
  refine g_iconst (v := nI 0) dL_yarnBy_1 rfl ?_
  refine g_aload_0 dL_yarnBy_2 ?_
  refine g_iload_1 dL_yarnBy_3 ?_
  refine g_v1_x dL_yarnBy_4 (vL_131 rfl) rfl hob (Nat.le_of_ble_eq_true rfl) (Nat.le_of_ble_eq_true rfl) (Nat.le_of_ble_eq_true rfl) hc (fun z2 hz2 => ?_)
  refine x_catch [] ⟨0, 9, 12, 20⟩ [⟨0, 9, 15, 15⟩] (by decide) rfl (fun q hq => absurd hq List.not_mem_nil) rfl (by decide) xcL_20 gK_IOE (fun q => ?_)
  refine g_astore_3 rfl dL_yarnBy_12 ?_
  refine g_iconst (v := nI 1) dL_yarnBy_13 rfl ?_
  exact g_ireturn rfl rfl dL_yarnBy_14 (Nat.le_of_ble_eq_true rfl) (Nat.le_of_ble_eq_true rfl) ⟨rfl, rfl, hz2⟩
theorem wno_yarnBy2 : Wno mL_yarnBy mX7_yarnBy [.int w0] ISE 2 := by
  intro M z a o ⟨fs, hob⟩ ⟨fo, hfo⟩ hc
  refine runs_ofH plL (by decide) (Nat.le_of_ble_eq_true rfl) ?_
  show WP mL_yarnBy 0 [some (.ref a), some (.int w0), some (.ref o), none] [] M z 0 0 _
  refine g_aload_2 dL_yarnBy_0 ?_
  refine g_iconst (v := nI 0) dL_yarnBy_1 rfl ?_
  refine g_aload_0 dL_yarnBy_2 ?_
  refine g_iload_1 dL_yarnBy_3 ?_
  refine g_v1_x dL_yarnBy_4 (vL_131 rfl) rfl hob (Nat.le_of_ble_eq_true rfl) (Nat.le_of_ble_eq_true rfl) (Nat.le_of_ble_eq_true rfl) hc (fun z2 hz2 => ?_)
  refine x_catch [⟨0, 9, 12, 20⟩] ⟨0, 9, 15, 15⟩ [] (by decide) rfl (fun q hq => by
      simp only [List.mem_cons, List.not_mem_nil, or_false] at hq
      subst hq
      exact ⟨by decide, IOE, xcL_20, by decide⟩) rfl (by decide) xcL_15 gK_ISE (fun q => ?_)
  refine g_astore_3 rfl dL_yarnBy_15 ?_
  refine g_iconst (v := nI 2) dL_yarnBy_16 rfl ?_
  exact g_ireturn rfl rfl dL_yarnBy_17 (Nat.le_of_ble_eq_true rfl) (Nat.le_of_ble_eq_true rfl) ⟨rfl, rfl, hz2⟩
theorem wok_simulate : Wok mL_simulate mX7_simulate [.long sd, .int w1] := by
  intro M z a o v Q ⟨fs, hob⟩ hc hQ
  refine runs_ofH plL (by decide) (Nat.le_of_ble_eq_true rfl) ?_
  show WP mL_simulate 0 [some (.ref a), some (.long sd), none, some (.int w1), some (.ref o), none] [] M z 0 0 _
  refine g_aload_4 dL_simulate_0 ?_
  refine g_iconst (v := nI 0) dL_simulate_2 rfl ?_
  refine g_aload_0 dL_simulate_3 ?_
  refine g_lload_1 dL_simulate_4 ?_
  refine g_iload_3 dL_simulate_5 ?_
  refine g_v2 dL_simulate_6 (vL_134 rfl) rfl hob (Nat.le_of_ble_eq_true rfl) (Nat.le_of_ble_eq_true rfl) (Nat.le_of_ble_eq_true rfl) (hc) (fun r M2 z2 hq => ?_) (fun E M2 z2 hq => by obtain ⟨hq, -⟩ := hq; cases hq)
  obtain ⟨hr, hq1⟩ := hq
  cases hr
  obtain ⟨fo, hfo⟩ := hQ _ _ hq1
  refine g_i2l dL_simulate_9 ?_
  refine g_lastN dL_simulate_10 hfo (by omega) (by decide) ?_
  refine g_goto (tgt := 18) dL_simulate_11 (by decide) ?_
  refine g_iconst (v := nI 0) dL_simulate_18 rfl ?_
  exact g_ireturn rfl rfl dL_simulate_19 (Nat.le_of_ble_eq_true rfl) (Nat.le_of_ble_eq_true rfl) ⟨rfl, _, fo, hq1, hfo, rfl⟩
theorem wno_simulate1 : Wno mL_simulate mX7_simulate [.long sd, .int w1] IAE 1 := by
  intro M z a o ⟨fs, hob⟩ ⟨fo, hfo⟩ hc
  refine runs_ofH plL (by decide) (Nat.le_of_ble_eq_true rfl) ?_
  show WP mL_simulate 0 [some (.ref a), some (.long sd), none, some (.int w1), some (.ref o), none] [] M z 0 0 _
  refine g_aload_4 dL_simulate_0 ?_
  refine g_iconst (v := nI 0) dL_simulate_2 rfl ?_
  refine g_aload_0 dL_simulate_3 ?_
  refine g_lload_1 dL_simulate_4 ?_
  refine g_iload_3 dL_simulate_5 ?_
  refine g_v2_x dL_simulate_6 (vL_134 rfl) rfl hob (Nat.le_of_ble_eq_true rfl) (Nat.le_of_ble_eq_true rfl) (Nat.le_of_ble_eq_true rfl) hc (fun z2 hz2 => ?_)
  refine x_catch [] ⟨0, 11, 14, 13⟩ [] (by decide) rfl (fun q hq => absurd hq List.not_mem_nil) rfl (by decide) xcL_13 gK_IAE (fun q => ?_)
  refine g_astore_5 rfl dL_simulate_14 ?_
  refine g_iconst (v := nI 1) dL_simulate_16 rfl ?_
  exact g_ireturn rfl rfl dL_simulate_17 (Nat.le_of_ble_eq_true rfl) (Nat.le_of_ble_eq_true rfl) ⟨rfl, rfl, hz2⟩
theorem wok_save : Wok mL_save mX7_save [.int w0] := by
  intro M z a o v Q ⟨fs, hob⟩ hc hQ
  refine runs_ofH plL (by decide) (Nat.le_of_ble_eq_true rfl) ?_
  show WP mL_save 0 [some (.ref a), some (.int w0), some (.ref o), none] [] M z 0 0 _
  refine g_aload_2 dL_save_0 ?_
  refine g_iconst (v := nI 0) dL_save_1 rfl ?_
  refine g_aload_0 dL_save_2 ?_
  refine g_iload_1 dL_save_3 ?_
  refine g_v1 dL_save_4 (vL_138 rfl) rfl hob (Nat.le_of_ble_eq_true rfl) (Nat.le_of_ble_eq_true rfl) (Nat.le_of_ble_eq_true rfl) (hc) (fun r M2 z2 hq => ?_) (fun E M2 z2 hq => by obtain ⟨hq, -⟩ := hq; cases hq)
  obtain ⟨hr, hq1⟩ := hq
  cases hr
  obtain ⟨fo, hfo⟩ := hQ _ _ hq1
  refine g_i2l dL_save_7 ?_
  refine g_lastN dL_save_8 hfo (by omega) (by decide) ?_
  refine g_goto (tgt := 15) dL_save_9 (by decide) ?_
  refine g_iconst (v := nI 0) dL_save_15 rfl ?_
  exact g_ireturn rfl rfl dL_save_16 (Nat.le_of_ble_eq_true rfl) (Nat.le_of_ble_eq_true rfl) ⟨rfl, _, fo, hq1, hfo, rfl⟩
theorem wno_save1 : Wno mL_save mX7_save [.int w0] IOE 1 := by
  intro M z a o ⟨fs, hob⟩ ⟨fo, hfo⟩ hc
  refine runs_ofH plL (by decide) (Nat.le_of_ble_eq_true rfl) ?_
  show WP mL_save 0 [some (.ref a), some (.int w0), some (.ref o), none] [] M z 0 0 _
  refine g_aload_2 dL_save_0 ?_
  refine g_iconst (v := nI 0) dL_save_1 rfl ?_
  refine g_aload_0 dL_save_2 ?_
  refine g_iload_1 dL_save_3 ?_
  refine g_v1_x dL_save_4 (vL_138 rfl) rfl hob (Nat.le_of_ble_eq_true rfl) (Nat.le_of_ble_eq_true rfl) (Nat.le_of_ble_eq_true rfl) hc (fun z2 hz2 => ?_)
  refine x_catch [] ⟨0, 9, 12, 20⟩ [] (by decide) rfl (fun q hq => absurd hq List.not_mem_nil) rfl (by decide) xcL_20 gK_IOE (fun q => ?_)
  refine g_astore_3 rfl dL_save_12 ?_
  refine g_iconst (v := nI 1) dL_save_13 rfl ?_
  exact g_ireturn rfl rfl dL_save_14 (Nat.le_of_ble_eq_true rfl) (Nat.le_of_ble_eq_true rfl) ⟨rfl, rfl, hz2⟩
theorem wok_restore : Wok mL_restore mX7_restore [.int w0] := by
  intro M z a o v Q ⟨fs, hob⟩ hc hQ
  refine runs_ofH plL (by decide) (Nat.le_of_ble_eq_true rfl) ?_
  show WP mL_restore 0 [some (.ref a), some (.int w0), some (.ref o), none] [] M z 0 0 _
  refine g_aload_2 dL_restore_0 ?_
  refine g_iconst (v := nI 0) dL_restore_1 rfl ?_
  refine g_aload_0 dL_restore_2 ?_
  refine g_iload_1 dL_restore_3 ?_
  refine g_v1 dL_restore_4 (vL_141 rfl) rfl hob (Nat.le_of_ble_eq_true rfl) (Nat.le_of_ble_eq_true rfl) (Nat.le_of_ble_eq_true rfl) (hc) (fun r M2 z2 hq => ?_) (fun E M2 z2 hq => by obtain ⟨hq, -⟩ := hq; cases hq)
  obtain ⟨hr, hq1⟩ := hq
  cases hr
  obtain ⟨fo, hfo⟩ := hQ _ _ hq1
  refine g_i2l dL_restore_7 ?_
  refine g_lastN dL_restore_8 hfo (by omega) (by decide) ?_
  refine g_goto (tgt := 18) dL_restore_9 (by decide) ?_
  refine g_iconst (v := nI 0) dL_restore_18 rfl ?_
  exact g_ireturn rfl rfl dL_restore_19 (Nat.le_of_ble_eq_true rfl) (Nat.le_of_ble_eq_true rfl) ⟨rfl, _, fo, hq1, hfo, rfl⟩
theorem wno_restore1 : Wno mL_restore mX7_restore [.int w0] IOE 1 := by
  intro M z a o ⟨fs, hob⟩ ⟨fo, hfo⟩ hc
  refine runs_ofH plL (by decide) (Nat.le_of_ble_eq_true rfl) ?_
  show WP mL_restore 0 [some (.ref a), some (.int w0), some (.ref o), none] [] M z 0 0 _
  refine g_aload_2 dL_restore_0 ?_
  refine g_iconst (v := nI 0) dL_restore_1 rfl ?_
  refine g_aload_0 dL_restore_2 ?_
  refine g_iload_1 dL_restore_3 ?_
  refine g_v1_x dL_restore_4 (vL_141 rfl) rfl hob (Nat.le_of_ble_eq_true rfl) (Nat.le_of_ble_eq_true rfl) (Nat.le_of_ble_eq_true rfl) hc (fun z2 hz2 => ?_)
  refine x_catch [] ⟨0, 9, 12, 20⟩ [⟨0, 9, 15, 15⟩] (by decide) rfl (fun q hq => absurd hq List.not_mem_nil) rfl (by decide) xcL_20 gK_IOE (fun q => ?_)
  refine g_astore_3 rfl dL_restore_12 ?_
  refine g_iconst (v := nI 1) dL_restore_13 rfl ?_
  exact g_ireturn rfl rfl dL_restore_14 (Nat.le_of_ble_eq_true rfl) (Nat.le_of_ble_eq_true rfl) ⟨rfl, rfl, hz2⟩
theorem wno_restore2 : Wno mL_restore mX7_restore [.int w0] ISE 2 := by
  intro M z a o ⟨fs, hob⟩ ⟨fo, hfo⟩ hc
  refine runs_ofH plL (by decide) (Nat.le_of_ble_eq_true rfl) ?_
  show WP mL_restore 0 [some (.ref a), some (.int w0), some (.ref o), none] [] M z 0 0 _
  refine g_aload_2 dL_restore_0 ?_
  refine g_iconst (v := nI 0) dL_restore_1 rfl ?_
  refine g_aload_0 dL_restore_2 ?_
  refine g_iload_1 dL_restore_3 ?_
  refine g_v1_x dL_restore_4 (vL_141 rfl) rfl hob (Nat.le_of_ble_eq_true rfl) (Nat.le_of_ble_eq_true rfl) (Nat.le_of_ble_eq_true rfl) hc (fun z2 hz2 => ?_)
  refine x_catch [⟨0, 9, 12, 20⟩] ⟨0, 9, 15, 15⟩ [] (by decide) rfl (fun q hq => by
      simp only [List.mem_cons, List.not_mem_nil, or_false] at hq
      subst hq
      exact ⟨by decide, IOE, xcL_20, by decide⟩) rfl (by decide) xcL_15 gK_ISE (fun q => ?_)
  refine g_astore_3 rfl dL_restore_15 ?_
  refine g_iconst (v := nI 2) dL_restore_16 rfl ?_
  exact g_ireturn rfl rfl dL_restore_17 (Nat.le_of_ble_eq_true rfl) (Nat.le_of_ble_eq_true rfl) ⟨rfl, rfl, hz2⟩
end P66
