def gStaH (m m' : GM) (idx nA : Nat) : Prop := gCal m' nA ∧ ghh m' ≠ [] ∧ Cond.static (gy m') ∈ gW ∧ Cond.methodLink (gy m).cls idx (gy m') ∈ gW
theorem g_staH {m m' : GM} {pc z k n idx : Nat} {L : List (Option Value)} {rest : List Value} {M : Hp} {Φ Ψ : GR → Hp → Nat → Prop} {as st : List Value} {nA : Nat} (d : dc m pc (.invokestatic idx) 3) (lk : gStaH m m' idx nA) (bud : gBud m m' = true) (hst : st = as.reverse ++ rest) (hnA : as.length = nA) (hcat : (rest.map fun v => v.category).sum ≤ 8) (hk : k + gce m' ≤ gce m) (hn : n + gsl m' ≤ gsl m)
    (call : Runs m' as M z Ψ) (kk : ∀ r M' z', Ψ (.inl r) M' z' → WP m (pc + 3) L (r.toList ++ rest) M' z' (k + gce m') (n + gsl m') Φ) (kx : ∀ E M' z', Ψ (.inr E) M' z' → WX m pc L rest M' z' (k + gce m') (n + gsl m') E Φ) : WP m pc L st M z k n Φ := by
  intro D dA base p l e s mid args below meth c C H locs ls hR hS hL
  subst hnA
  obtain ⟨c1, c2, c3, lk⟩ := lk
  refine g_call (a := as.toArray) C hS hL ?_ kk kx
  have C' := C
  obtain ⟨hx, hb, hml, hown, hts, hlocks, hl, hname, hr, hT, hG, hbase, htab⟩ := C'
  obtain ⟨d1, d2, d3, d4⟩ := c1
  have hcw : gcw m' = Cond.codeWith (gy m') (gc m') (gl m') (gr m') (ghh m') := by
    cases hg : ghh m' with
    | nil => exact absurd hg c2
    | cons a t => simp only [gcw, hg]
  have hB := gBud_ok bud
  have hM' : vx_Met l (gy m') (gws m') (grm m') (va_Pc as (gPre D dA base z M)) (gQ Ψ D dA base) (gX Ψ D dA base) (gce m') (gsl m') (gA base) := call l hl D dA base
  have hp : PreS s H (va_Pc as (gPre D dA base z M)) as := ⟨gPre_blind D dA base z M as, gPre_at C hR hS⟩
  have ecode : Cond.codeWith (gy m') (gc m') (gl m') (gr m') (ghh m') ∈ gws m' := by rw [← hcw]; exact List.mem_cons_self
  exact vx_runSX (hh := ghh m') (ws := gws m') (rm := grm m') (bytes := gc m') (maxL := gl m') (ret := gr m') (Ts := gW) (own := (gy m).cls) ⟨hx, hb, hml, hown, hts⟩ hM' ⟨⟨rfl, rfl, hB.1, hB.2, pay_in hts (gws_in d1), ecode⟩, hts _ (by rw [← hcw]; exact d1), hts _ d2, d3, gparse d4, hts _ lk, hts _ c3⟩ hp rfl rfl hL.2.1 hst (lv_room hcat) d ⟨hk, hn⟩
theorem tWi {w : Cond} (h : w ∈ tables_1) (g : goodWord w = true) : w ∈ gW := List.mem_filter.mpr ⟨List.mem_append_right _ h, g⟩
theorem tNi {w : Cond} (h : w ∈ tables_1) (g : gnest w = true) : w ∈ gN := List.mem_filter.mpr ⟨h, g⟩
theorem tOi {w : Cond} (h : w ∈ tables_1) (g : gothr w = true) : w ∈ gO := List.mem_filter.mpr ⟨h, g⟩
theorem tSi {o : String} {k : Nat} {t : String} (h : Cond.stringRef o k t ∈ tables_1) : (o, k, t) ∈ gS := List.mem_filterMap.mpr ⟨_, h, rfl⟩
theorem tt1 {w : Cond} (i : Nat) (h : tables_1_1[i]? = some w) : w ∈ tables_1 := (List.mem_append_left _ (List.mem_of_getElem? h))
theorem tW1 {w : Cond} (i : Nat) (h : tables_1_1[i]? = some w) (g : goodWord w = true) : w ∈ gW := tWi (tt1 i h) g
theorem tN1 {w : Cond} (i : Nat) (h : tables_1_1[i]? = some w) (g : gnest w = true) : w ∈ gN := tNi (tt1 i h) g
theorem tO1 {w : Cond} (i : Nat) (h : tables_1_1[i]? = some w) (g : gothr w = true) : w ∈ gO := tOi (tt1 i h) g
theorem tt2 {w : Cond} (i : Nat) (h : tables_1_2[i]? = some w) : w ∈ tables_1 := (List.mem_append_right _ (List.mem_append_left _ (List.mem_of_getElem? h)))
theorem tW2 {w : Cond} (i : Nat) (h : tables_1_2[i]? = some w) (g : goodWord w = true) : w ∈ gW := tWi (tt2 i h) g
theorem tN2 {w : Cond} (i : Nat) (h : tables_1_2[i]? = some w) (g : gnest w = true) : w ∈ gN := tNi (tt2 i h) g
theorem tO2 {w : Cond} (i : Nat) (h : tables_1_2[i]? = some w) (g : gothr w = true) : w ∈ gO := tOi (tt2 i h) g
theorem tt3 {w : Cond} (i : Nat) (h : tables_1_3[i]? = some w) : w ∈ tables_1 := (List.mem_append_right _ (List.mem_append_right _ (List.mem_append_left _ (List.mem_of_getElem? h))))
theorem tW3 {w : Cond} (i : Nat) (h : tables_1_3[i]? = some w) (g : goodWord w = true) : w ∈ gW := tWi (tt3 i h) g
theorem tN3 {w : Cond} (i : Nat) (h : tables_1_3[i]? = some w) (g : gnest w = true) : w ∈ gN := tNi (tt3 i h) g
theorem tO3 {w : Cond} (i : Nat) (h : tables_1_3[i]? = some w) (g : gothr w = true) : w ∈ gO := tOi (tt3 i h) g
theorem tt4 {w : Cond} (i : Nat) (h : tables_1_4[i]? = some w) : w ∈ tables_1 := (List.mem_append_right _ (List.mem_append_right _ (List.mem_append_right _ (List.mem_append_left _ (List.mem_of_getElem? h)))))
theorem tW4 {w : Cond} (i : Nat) (h : tables_1_4[i]? = some w) (g : goodWord w = true) : w ∈ gW := tWi (tt4 i h) g
theorem tN4 {w : Cond} (i : Nat) (h : tables_1_4[i]? = some w) (g : gnest w = true) : w ∈ gN := tNi (tt4 i h) g
theorem tO4 {w : Cond} (i : Nat) (h : tables_1_4[i]? = some w) (g : gothr w = true) : w ∈ gO := tOi (tt4 i h) g
theorem tt5 {w : Cond} (i : Nat) (h : tables_1_5[i]? = some w) : w ∈ tables_1 := (List.mem_append_right _ (List.mem_append_right _ (List.mem_append_right _ (List.mem_append_right _ (List.mem_append_left _ (List.mem_of_getElem? h))))))
theorem tW5 {w : Cond} (i : Nat) (h : tables_1_5[i]? = some w) (g : goodWord w = true) : w ∈ gW := tWi (tt5 i h) g
theorem tN5 {w : Cond} (i : Nat) (h : tables_1_5[i]? = some w) (g : gnest w = true) : w ∈ gN := tNi (tt5 i h) g
theorem tO5 {w : Cond} (i : Nat) (h : tables_1_5[i]? = some w) (g : gothr w = true) : w ∈ gO := tOi (tt5 i h) g
theorem tt6 {w : Cond} (i : Nat) (h : tables_1_6[i]? = some w) : w ∈ tables_1 := (List.mem_append_right _ (List.mem_append_right _ (List.mem_append_right _ (List.mem_append_right _ (List.mem_append_right _ (List.mem_append_left _ (List.mem_of_getElem? h)))))))
theorem tW6 {w : Cond} (i : Nat) (h : tables_1_6[i]? = some w) (g : goodWord w = true) : w ∈ gW := tWi (tt6 i h) g
theorem tN6 {w : Cond} (i : Nat) (h : tables_1_6[i]? = some w) (g : gnest w = true) : w ∈ gN := tNi (tt6 i h) g
theorem tO6 {w : Cond} (i : Nat) (h : tables_1_6[i]? = some w) (g : gothr w = true) : w ∈ gO := tOi (tt6 i h) g
theorem tt7 {w : Cond} (i : Nat) (h : tables_1_7[i]? = some w) : w ∈ tables_1 := (List.mem_append_right _ (List.mem_append_right _ (List.mem_append_right _ (List.mem_append_right _ (List.mem_append_right _ (List.mem_append_right _ (List.mem_of_getElem? h)))))))
theorem tW7 {w : Cond} (i : Nat) (h : tables_1_7[i]? = some w) (g : goodWord w = true) : w ∈ gW := tWi (tt7 i h) g
theorem tN7 {w : Cond} (i : Nat) (h : tables_1_7[i]? = some w) (g : gnest w = true) : w ∈ gN := tNi (tt7 i h) g
theorem tO7 {w : Cond} (i : Nat) (h : tables_1_7[i]? = some w) (g : gothr w = true) : w ∈ gO := tOi (tt7 i h) g
theorem tP {w : Cond} (h : w ∈ k2_sels lw_privs) (g : goodWord w = true) : w ∈ gW := List.mem_filter.mpr ⟨List.mem_append_left _ h, g⟩
theorem uX0 : ∀ w ∈ u_ws RX0 TX0 4, w ∈ gW := fun w hw => tWi ((by decide +kernel : ∀ w ∈ u_ws RX0 TX0 4, w ∈ tables_1) w hw) ((by decide +kernel : ∀ w ∈ u_ws RX0 TX0 4, goodWord w = true) w hw)
theorem uX1 : ∀ w ∈ u_ws RX1 TX1 3, w ∈ gW := fun w hw => tWi ((by decide +kernel : ∀ w ∈ u_ws RX1 TX1 3, w ∈ tables_1) w hw) ((by decide +kernel : ∀ w ∈ u_ws RX1 TX1 3, goodWord w = true) w hw)
theorem uX2 : ∀ w ∈ u_ws RX2 TX2 3, w ∈ gW := fun w hw => tWi ((by decide +kernel : ∀ w ∈ u_ws RX2 TX2 3, w ∈ tables_1) w hw) ((by decide +kernel : ∀ w ∈ u_ws RX2 TX2 3, goodWord w = true) w hw)
theorem uX3 : ∀ w ∈ u_ws RX3 TX3 7, w ∈ gW := fun w hw => tWi ((by decide +kernel : ∀ w ∈ u_ws RX3 TX3 7, w ∈ tables_1) w hw) ((by decide +kernel : ∀ w ∈ u_ws RX3 TX3 7, goodWord w = true) w hw)
theorem uX4 : ∀ w ∈ u_ws RX4 TX4 9, w ∈ gW := fun w hw => tWi ((by decide +kernel : ∀ w ∈ u_ws RX4 TX4 9, w ∈ tables_1) w hw) ((by decide +kernel : ∀ w ∈ u_ws RX4 TX4 9, goodWord w = true) w hw)
theorem uX5 : ∀ w ∈ u_ws RX5 TX5 2, w ∈ gW := fun w hw => tWi ((by decide +kernel : ∀ w ∈ u_ws RX5 TX5 2, w ∈ tables_1) w hw) ((by decide +kernel : ∀ w ∈ u_ws RX5 TX5 2, goodWord w = true) w hw)
theorem uX6 : ∀ w ∈ u_ws RX6 TX6 5, w ∈ gW := fun w hw => tWi ((by decide +kernel : ∀ w ∈ u_ws RX6 TX6 5, w ∈ tables_1) w hw) ((by decide +kernel : ∀ w ∈ u_ws RX6 TX6 5, goodWord w = true) w hw)
theorem uX7 : ∀ w ∈ u_ws RX7 TX7 7, w ∈ gW := fun w hw => tWi ((by decide +kernel : ∀ w ∈ u_ws RX7 TX7 7, w ∈ tables_1) w hw) ((by decide +kernel : ∀ w ∈ u_ws RX7 TX7 7, goodWord w = true) w hw)
theorem uX8 : ∀ w ∈ u_ws RX8 TX8 20, w ∈ gW := fun w hw => tWi ((by decide +kernel : ∀ w ∈ u_ws RX8 TX8 20, w ∈ tables_1) w hw) ((by decide +kernel : ∀ w ∈ u_ws RX8 TX8 20, goodWord w = true) w hw)
theorem fX7_12 {m : GM} (h : (gy m).cls = RX7) : gFL m 12 7 0 (.object "RugPunch$Rug") true := ⟨RX7, TX7, 7, tyX7, rfl, by decide, rfl, uX7, tyX7_ok, nmX7, rfl, rfl, Or.inl ⟨by rw [h]; exact tW1 196 (by decide +kernel) rfl, fun _ => h.symm⟩⟩
theorem fX7_16 {m : GM} (h : (gy m).cls = RX7) : gFL m 16 7 1 (.object "RugPunch$Rug") true := ⟨RX7, TX7, 7, tyX7, rfl, by decide, rfl, uX7, tyX7_ok, nmX7, rfl, rfl, Or.inl ⟨by rw [h]; exact tW1 197 (by decide +kernel) rfl, fun _ => h.symm⟩⟩
theorem fX7_19 {m : GM} (h : (gy m).cls = RX7) : gFL m 19 7 2 (.array (.object "RugPunch$Rug")) true := ⟨RX7, TX7, 7, tyX7, rfl, by decide, rfl, uX7, tyX7_ok, nmX7, rfl, rfl, Or.inl ⟨by rw [h]; exact tW1 198 (by decide +kernel) rfl, fun _ => h.symm⟩⟩
theorem fX7_26 {m : GM} (h : (gy m).cls = RX7) : gFL m 26 7 3 (.object "RugPunch$History") true := ⟨RX7, TX7, 7, tyX7, rfl, by decide, rfl, uX7, tyX7_ok, nmX7, rfl, rfl, Or.inl ⟨by rw [h]; exact tW1 199 (by decide +kernel) rfl, fun _ => h.symm⟩⟩
theorem fX7_33 {m : GM} (h : (gy m).cls = RX7) : gFL m 33 7 4 (.object "RugPunch$Script") true := ⟨RX7, TX7, 7, tyX7, rfl, by decide, rfl, uX7, tyX7_ok, nmX7, rfl, rfl, Or.inl ⟨by rw [h]; exact tW1 200 (by decide +kernel) rfl, fun _ => h.symm⟩⟩
theorem fX7_40 {m : GM} (h : (gy m).cls = RX7) : gFL m 40 7 5 (.object "RugPunch$Player") true := ⟨RX7, TX7, 7, tyX7, rfl, by decide, rfl, uX7, tyX7_ok, nmX7, rfl, rfl, Or.inl ⟨by rw [h]; exact tW1 201 (by decide +kernel) rfl, fun _ => h.symm⟩⟩
theorem fX7_47 {m : GM} (h : (gy m).cls = RX7) : gFL m 47 7 6 (.object "RugPunch$Areas") true := ⟨RX7, TX7, 7, tyX7, rfl, by decide, rfl, uX7, tyX7_ok, nmX7, rfl, rfl, Or.inl ⟨by rw [h]; exact tW1 202 (by decide +kernel) rfl, fun _ => h.symm⟩⟩
theorem fX7_55 {m : GM} (h : (gy m).cls = RX7) : gFL m 55 5 1 (.int) false := ⟨RX5, TX5, 2, tyX5, rfl, by decide, rfl, uX5, tyX5_ok, nmX5, rfl, rfl, Or.inr ⟨Or.inr trivial, "RugPunch", by rw [h]; exact tN1 80 (by decide +kernel) rfl⟩⟩
theorem fX7_78 {m : GM} (h : (gy m).cls = RX7) : gFL m 78 4 0 (.object "RugPunch$Canvas") true := ⟨RX4, TX4, 9, tyX4, rfl, by decide, rfl, uX4, tyX4_ok, nmX4, rfl, rfl, Or.inr ⟨Or.inr trivial, "RugPunch", by rw [h]; exact tN1 90 (by decide +kernel) rfl⟩⟩
theorem fX7_124 {m : GM} (h : (gy m).cls = RX7) : gFL m 124 4 3 (.int) false := ⟨RX4, TX4, 9, tyX4, rfl, by decide, rfl, uX4, tyX4_ok, nmX4, rfl, rfl, Or.inr ⟨Or.inr trivial, "RugPunch", by rw [h]; exact tN1 95 (by decide +kernel) rfl⟩⟩
theorem fX7_127 {m : GM} (h : (gy m).cls = RX7) : gFL m 127 4 4 (.int) false := ⟨RX4, TX4, 9, tyX4, rfl, by decide, rfl, uX4, tyX4_ok, nmX4, rfl, rfl, Or.inr ⟨Or.inr trivial, "RugPunch", by rw [h]; exact tN1 97 (by decide +kernel) rfl⟩⟩
theorem fX7_130 {m : GM} (h : (gy m).cls = RX7) : gFL m 130 4 5 (.int) false := ⟨RX4, TX4, 9, tyX4, rfl, by decide, rfl, uX4, tyX4_ok, nmX4, rfl, rfl, Or.inr ⟨Or.inr trivial, "RugPunch", by rw [h]; exact tN1 99 (by decide +kernel) rfl⟩⟩
theorem fX7_133 {m : GM} (h : (gy m).cls = RX7) : gFL m 133 4 6 (.int) false := ⟨RX4, TX4, 9, tyX4, rfl, by decide, rfl, uX4, tyX4_ok, nmX4, rfl, rfl, Or.inr ⟨Or.inr trivial, "RugPunch", by rw [h]; exact tN1 102 (by decide +kernel) rfl⟩⟩
theorem fX7_136 {m : GM} (h : (gy m).cls = RX7) : gFL m 136 4 7 (.int) false := ⟨RX4, TX4, 9, tyX4, rfl, by decide, rfl, uX4, tyX4_ok, nmX4, rfl, rfl, Or.inr ⟨Or.inr trivial, "RugPunch", by rw [h]; exact tN1 104 (by decide +kernel) rfl⟩⟩
theorem fX7_147 {m : GM} (h : (gy m).cls = RX7) : gFL m 147 4 1 (.object "RugPunch$Yarn") true := ⟨RX4, TX4, 9, tyX4, rfl, by decide, rfl, uX4, tyX4_ok, nmX4, rfl, rfl, Or.inr ⟨Or.inr trivial, "RugPunch", by rw [h]; exact tN1 92 (by decide +kernel) rfl⟩⟩
theorem fX7_174 {m : GM} (h : (gy m).cls = RX7) : gFL m 174 4 8 (.int) false := ⟨RX4, TX4, 9, tyX4, rfl, by decide, rfl, uX4, tyX4_ok, nmX4, rfl, rfl, Or.inr ⟨Or.inr trivial, "RugPunch", by rw [h]; exact tN1 106 (by decide +kernel) rfl⟩⟩
theorem fX7_277 {m : GM} (h : (gy m).cls = RX7) : gFL m 277 2 2 (.int) false := ⟨RX2, TX2, 3, tyX2, rfl, by decide, rfl, uX2, tyX2_ok, nmX2, rfl, rfl, Or.inr ⟨Or.inr trivial, "RugPunch", by rw [h]; exact tN1 137 (by decide +kernel) rfl⟩⟩
theorem fX0_9 {m : GM} (h : (gy m).cls = RX0) : gFL m 9 0 0 (.array .boolean) true := ⟨RX0, TX0, 4, tyX0, rfl, by decide, rfl, uX0, tyX0_ok, nmX0, rfl, rfl, Or.inl ⟨by rw [h]; exact tW1 182 (by decide +kernel) rfl, fun _ => h.symm⟩⟩
theorem fX0_15 {m : GM} (h : (gy m).cls = RX0) : gFL m 15 0 1 (.array .int) true := ⟨RX0, TX0, 4, tyX0, rfl, by decide, rfl, uX0, tyX0_ok, nmX0, rfl, rfl, Or.inl ⟨by rw [h]; exact tW1 183 (by decide +kernel) rfl, fun _ => h.symm⟩⟩
theorem fX0_19 {m : GM} (h : (gy m).cls = RX0) : gFL m 19 0 3 (.array .int) true := ⟨RX0, TX0, 4, tyX0, rfl, by decide, rfl, uX0, tyX0_ok, nmX0, rfl, rfl, Or.inl ⟨by rw [h]; exact tW1 185 (by decide +kernel) rfl, fun _ => h.symm⟩⟩
theorem fX0_32 {m : GM} (h : (gy m).cls = RX0) : gFL m 32 0 2 (.int) false := ⟨RX0, TX0, 4, tyX0, rfl, by decide, rfl, uX0, tyX0_ok, nmX0, rfl, rfl, Or.inl ⟨by rw [h]; exact tW1 184 (by decide +kernel) rfl, fun _ => h.symm⟩⟩
theorem fX1_9 {m : GM} (h : (gy m).cls = RX1) : gFL m 9 1 0 (.array .int) true := ⟨RX1, TX1, 3, tyX1, rfl, by decide, rfl, uX1, tyX1_ok, nmX1, rfl, rfl, Or.inl ⟨by rw [h]; exact tW1 38 (by decide +kernel) rfl, fun _ => h.symm⟩⟩
theorem fX1_15 {m : GM} (h : (gy m).cls = RX1) : gFL m 15 1 1 (.array .int) true := ⟨RX1, TX1, 3, tyX1, rfl, by decide, rfl, uX1, tyX1_ok, nmX1, rfl, rfl, Or.inl ⟨by rw [h]; exact tW1 39 (by decide +kernel) rfl, fun _ => h.symm⟩⟩
theorem fX1_18 {m : GM} (h : (gy m).cls = RX1) : gFL m 18 1 2 (.array .int) true := ⟨RX1, TX1, 3, tyX1, rfl, by decide, rfl, uX1, tyX1_ok, nmX1, rfl, rfl, Or.inl ⟨by rw [h]; exact tW1 40 (by decide +kernel) rfl, fun _ => h.symm⟩⟩
theorem fX2_11 {m : GM} (h : (gy m).cls = RX2) : gFL m 11 2 0 (.array (.object "RugPunch$Rug")) true := ⟨RX2, TX2, 3, tyX2, rfl, by decide, rfl, uX2, tyX2_ok, nmX2, rfl, rfl, Or.inl ⟨by rw [h]; exact tW1 134 (by decide +kernel) rfl, fun _ => h.symm⟩⟩
theorem fX2_15 {m : GM} (h : (gy m).cls = RX2) : gFL m 15 2 2 (.int) false := ⟨RX2, TX2, 3, tyX2, rfl, by decide, rfl, uX2, tyX2_ok, nmX2, rfl, rfl, Or.inl ⟨by rw [h]; exact tW1 136 (by decide +kernel) rfl, fun _ => h.symm⟩⟩
theorem fX2_19 {m : GM} (h : (gy m).cls = RX2) : gFL m 19 2 1 (.int) false := ⟨RX2, TX2, 3, tyX2, rfl, by decide, rfl, uX2, tyX2_ok, nmX2, rfl, rfl, Or.inl ⟨by rw [h]; exact tW1 135 (by decide +kernel) rfl, fun _ => h.symm⟩⟩
theorem fX3_13 {m : GM} (h : (gy m).cls = RX3) : gFL m 13 3 0 (.array (.object "RugPunch$Script")) true := ⟨RX3, TX3, 7, tyX3, rfl, by decide, rfl, uX3, tyX3_ok, nmX3, rfl, rfl, Or.inl ⟨by rw [h]; exact tW1 154 (by decide +kernel) rfl, fun _ => h.symm⟩⟩
theorem fX3_17 {m : GM} (h : (gy m).cls = RX3) : gFL m 17 3 1 (.array .int) true := ⟨RX3, TX3, 7, tyX3, rfl, by decide, rfl, uX3, tyX3_ok, nmX3, rfl, rfl, Or.inl ⟨by rw [h]; exact tW1 155 (by decide +kernel) rfl, fun _ => h.symm⟩⟩
theorem fX3_21 {m : GM} (h : (gy m).cls = RX3) : gFL m 21 3 2 (.array .int) true := ⟨RX3, TX3, 7, tyX3, rfl, by decide, rfl, uX3, tyX3_ok, nmX3, rfl, rfl, Or.inl ⟨by rw [h]; exact tW1 156 (by decide +kernel) rfl, fun _ => h.symm⟩⟩
theorem fX3_24 {m : GM} (h : (gy m).cls = RX3) : gFL m 24 3 3 (.array .int) true := ⟨RX3, TX3, 7, tyX3, rfl, by decide, rfl, uX3, tyX3_ok, nmX3, rfl, rfl, Or.inl ⟨by rw [h]; exact tW1 157 (by decide +kernel) rfl, fun _ => h.symm⟩⟩
theorem fX3_27 {m : GM} (h : (gy m).cls = RX3) : gFL m 27 3 4 (.int) false := ⟨RX3, TX3, 7, tyX3, rfl, by decide, rfl, uX3, tyX3_ok, nmX3, rfl, rfl, Or.inl ⟨by rw [h]; exact tW1 158 (by decide +kernel) rfl, fun _ => h.symm⟩⟩
theorem fX3_31 {m : GM} (h : (gy m).cls = RX3) : gFL m 31 3 5 (.int) false := ⟨RX3, TX3, 7, tyX3, rfl, by decide, rfl, uX3, tyX3_ok, nmX3, rfl, rfl, Or.inl ⟨by rw [h]; exact tW1 159 (by decide +kernel) rfl, fun _ => h.symm⟩⟩
theorem fX3_34 {m : GM} (h : (gy m).cls = RX3) : gFL m 34 3 6 (.int) false := ⟨RX3, TX3, 7, tyX3, rfl, by decide, rfl, uX3, tyX3_ok, nmX3, rfl, rfl, Or.inl ⟨by rw [h]; exact tW1 160 (by decide +kernel) rfl, fun _ => h.symm⟩⟩
theorem fX3_42 {m : GM} (h : (gy m).cls = RX3) : gFL m 42 5 1 (.int) false := ⟨RX5, TX5, 2, tyX5, rfl, by decide, rfl, uX5, tyX5_ok, nmX5, rfl, rfl, Or.inr ⟨Or.inr trivial, "RugPunch", by rw [h]; exact tN1 81 (by decide +kernel) rfl⟩⟩
theorem fX3_83 {m : GM} (h : (gy m).cls = RX3) : gFL m 83 4 6 (.int) false := ⟨RX4, TX4, 9, tyX4, rfl, by decide, rfl, uX4, tyX4_ok, nmX4, rfl, rfl, Or.inr ⟨Or.inr trivial, "RugPunch", by rw [h]; exact tN1 101 (by decide +kernel) rfl⟩⟩
theorem fX4_12 {m : GM} (h : (gy m).cls = RX4) : gFL m 12 4 0 (.object "RugPunch$Canvas") true := ⟨RX4, TX4, 9, tyX4, rfl, by decide, rfl, uX4, tyX4_ok, nmX4, rfl, rfl, Or.inl ⟨by rw [h]; exact tW1 89 (by decide +kernel) rfl, fun _ => h.symm⟩⟩
theorem fX4_21 {m : GM} (h : (gy m).cls = RX4) : gFL m 21 4 1 (.object "RugPunch$Yarn") true := ⟨RX4, TX4, 9, tyX4, rfl, by decide, rfl, uX4, tyX4_ok, nmX4, rfl, rfl, Or.inl ⟨by rw [h]; exact tW1 91 (by decide +kernel) rfl, fun _ => h.symm⟩⟩
theorem fX4_27 {m : GM} (h : (gy m).cls = RX4) : gFL m 27 4 2 (.array (.object "RugPunch$Script")) true := ⟨RX4, TX4, 9, tyX4, rfl, by decide, rfl, uX4, tyX4_ok, nmX4, rfl, rfl, Or.inl ⟨by rw [h]; exact tW1 93 (by decide +kernel) rfl, fun _ => h.symm⟩⟩
theorem fX4_31 {m : GM} (h : (gy m).cls = RX4) : gFL m 31 4 5 (.int) false := ⟨RX4, TX4, 9, tyX4, rfl, by decide, rfl, uX4, tyX4_ok, nmX4, rfl, rfl, Or.inl ⟨by rw [h]; exact tW1 98 (by decide +kernel) rfl, fun _ => h.symm⟩⟩
theorem fX4_35 {m : GM} (h : (gy m).cls = RX4) : gFL m 35 4 6 (.int) false := ⟨RX4, TX4, 9, tyX4, rfl, by decide, rfl, uX4, tyX4_ok, nmX4, rfl, rfl, Or.inl ⟨by rw [h]; exact tW1 100 (by decide +kernel) rfl, fun _ => h.symm⟩⟩
theorem fX4_50 {m : GM} (h : (gy m).cls = RX4) : gFL m 50 4 3 (.int) false := ⟨RX4, TX4, 9, tyX4, rfl, by decide, rfl, uX4, tyX4_ok, nmX4, rfl, rfl, Or.inl ⟨by rw [h]; exact tW1 94 (by decide +kernel) rfl, fun _ => h.symm⟩⟩
theorem fX4_53 {m : GM} (h : (gy m).cls = RX4) : gFL m 53 4 4 (.int) false := ⟨RX4, TX4, 9, tyX4, rfl, by decide, rfl, uX4, tyX4_ok, nmX4, rfl, rfl, Or.inl ⟨by rw [h]; exact tW1 96 (by decide +kernel) rfl, fun _ => h.symm⟩⟩
theorem fX4_56 {m : GM} (h : (gy m).cls = RX4) : gFL m 56 4 7 (.int) false := ⟨RX4, TX4, 9, tyX4, rfl, by decide, rfl, uX4, tyX4_ok, nmX4, rfl, rfl, Or.inl ⟨by rw [h]; exact tW1 103 (by decide +kernel) rfl, fun _ => h.symm⟩⟩
theorem fX4_59 {m : GM} (h : (gy m).cls = RX4) : gFL m 59 4 8 (.int) false := ⟨RX4, TX4, 9, tyX4, rfl, by decide, rfl, uX4, tyX4_ok, nmX4, rfl, rfl, Or.inl ⟨by rw [h]; exact tW1 105 (by decide +kernel) rfl, fun _ => h.symm⟩⟩
theorem fX4_65 {m : GM} (h : (gy m).cls = RX4) : gFL m 65 5 1 (.int) false := ⟨RX5, TX5, 2, tyX5, rfl, by decide, rfl, uX5, tyX5_ok, nmX5, rfl, rfl, Or.inr ⟨Or.inr trivial, "RugPunch", by rw [h]; exact tN1 82 (by decide +kernel) rfl⟩⟩
theorem fX5_9 {m : GM} (h : (gy m).cls = RX5) : gFL m 9 5 0 (.array .char) true := ⟨RX5, TX5, 2, tyX5, rfl, by decide, rfl, uX5, tyX5_ok, nmX5, rfl, rfl, Or.inl ⟨by rw [h]; exact tW1 78 (by decide +kernel) rfl, fun _ => h.symm⟩⟩
theorem fX5_15 {m : GM} (h : (gy m).cls = RX5) : gFL m 15 5 1 (.int) false := ⟨RX5, TX5, 2, tyX5, rfl, by decide, rfl, uX5, tyX5_ok, nmX5, rfl, rfl, Or.inl ⟨by rw [h]; exact tW1 79 (by decide +kernel) rfl, fun _ => h.symm⟩⟩
theorem fX6_9 {m : GM} (h : (gy m).cls = RX6) : gFL m 9 6 0 (.array .int) true := ⟨RX6, TX6, 5, tyX6, rfl, by decide, rfl, uX6, tyX6_ok, nmX6, rfl, rfl, Or.inl ⟨by rw [h]; exact tW1 55 (by decide +kernel) rfl, fun _ => h.symm⟩⟩
theorem fX6_15 {m : GM} (h : (gy m).cls = RX6) : gFL m 15 6 1 (.array .int) true := ⟨RX6, TX6, 5, tyX6, rfl, by decide, rfl, uX6, tyX6_ok, nmX6, rfl, rfl, Or.inl ⟨by rw [h]; exact tW1 56 (by decide +kernel) rfl, fun _ => h.symm⟩⟩
theorem fX6_18 {m : GM} (h : (gy m).cls = RX6) : gFL m 18 6 2 (.array .int) true := ⟨RX6, TX6, 5, tyX6, rfl, by decide, rfl, uX6, tyX6_ok, nmX6, rfl, rfl, Or.inl ⟨by rw [h]; exact tW1 57 (by decide +kernel) rfl, fun _ => h.symm⟩⟩
theorem fX6_21 {m : GM} (h : (gy m).cls = RX6) : gFL m 21 6 3 (.array .int) true := ⟨RX6, TX6, 5, tyX6, rfl, by decide, rfl, uX6, tyX6_ok, nmX6, rfl, rfl, Or.inl ⟨by rw [h]; exact tW1 58 (by decide +kernel) rfl, fun _ => h.symm⟩⟩
theorem fX6_24 {m : GM} (h : (gy m).cls = RX6) : gFL m 24 6 4 (.array .int) true := ⟨RX6, TX6, 5, tyX6, rfl, by decide, rfl, uX6, tyX6_ok, nmX6, rfl, rfl, Or.inl ⟨by rw [h]; exact tW1 59 (by decide +kernel) rfl, fun _ => h.symm⟩⟩
theorem fX8_7 {m : GM} (h : (gy m).cls = RX8) : gFL m 7 8 1 (.array .int) true := ⟨RX8, TX8, 20, tyX8, rfl, by decide, rfl, uX8, tyX8_ok, nmX8, rfl, rfl, Or.inl ⟨by rw [h]; exact tW5 140 (by decide +kernel) rfl, fun _ => h.symm⟩⟩
theorem fX8_13 {m : GM} (h : (gy m).cls = RX8) : gFL m 13 8 2 (.array .int) true := ⟨RX8, TX8, 20, tyX8, rfl, by decide, rfl, uX8, tyX8_ok, nmX8, rfl, rfl, Or.inl ⟨by rw [h]; exact tW5 141 (by decide +kernel) rfl, fun _ => h.symm⟩⟩
theorem fX8_16 {m : GM} (h : (gy m).cls = RX8) : gFL m 16 8 3 (.array .int) true := ⟨RX8, TX8, 20, tyX8, rfl, by decide, rfl, uX8, tyX8_ok, nmX8, rfl, rfl, Or.inl ⟨by rw [h]; exact tW5 142 (by decide +kernel) rfl, fun _ => h.symm⟩⟩
theorem fX8_19 {m : GM} (h : (gy m).cls = RX8) : gFL m 19 8 4 (.array .int) true := ⟨RX8, TX8, 20, tyX8, rfl, by decide, rfl, uX8, tyX8_ok, nmX8, rfl, rfl, Or.inl ⟨by rw [h]; exact tW5 143 (by decide +kernel) rfl, fun _ => h.symm⟩⟩
theorem fX8_22 {m : GM} (h : (gy m).cls = RX8) : gFL m 22 8 5 (.array .int) true := ⟨RX8, TX8, 20, tyX8, rfl, by decide, rfl, uX8, tyX8_ok, nmX8, rfl, rfl, Or.inl ⟨by rw [h]; exact tW5 144 (by decide +kernel) rfl, fun _ => h.symm⟩⟩
theorem fX8_25 {m : GM} (h : (gy m).cls = RX8) : gFL m 25 8 6 (.array .int) true := ⟨RX8, TX8, 20, tyX8, rfl, by decide, rfl, uX8, tyX8_ok, nmX8, rfl, rfl, Or.inl ⟨by rw [h]; exact tW5 145 (by decide +kernel) rfl, fun _ => h.symm⟩⟩
theorem fX8_28 {m : GM} (h : (gy m).cls = RX8) : gFL m 28 8 7 (.array .int) true := ⟨RX8, TX8, 20, tyX8, rfl, by decide, rfl, uX8, tyX8_ok, nmX8, rfl, rfl, Or.inl ⟨by rw [h]; exact tW5 146 (by decide +kernel) rfl, fun _ => h.symm⟩⟩
theorem fX8_31 {m : GM} (h : (gy m).cls = RX8) : gFL m 31 8 8 (.array .int) true := ⟨RX8, TX8, 20, tyX8, rfl, by decide, rfl, uX8, tyX8_ok, nmX8, rfl, rfl, Or.inl ⟨by rw [h]; exact tW5 147 (by decide +kernel) rfl, fun _ => h.symm⟩⟩
theorem fX8_34 {m : GM} (h : (gy m).cls = RX8) : gFL m 34 8 11 (.array .int) true := ⟨RX8, TX8, 20, tyX8, rfl, by decide, rfl, uX8, tyX8_ok, nmX8, rfl, rfl, Or.inl ⟨by rw [h]; exact tW5 150 (by decide +kernel) rfl, fun _ => h.symm⟩⟩
theorem fX8_37 {m : GM} (h : (gy m).cls = RX8) : gFL m 37 8 13 (.array .int) true := ⟨RX8, TX8, 20, tyX8, rfl, by decide, rfl, uX8, tyX8_ok, nmX8, rfl, rfl, Or.inl ⟨by rw [h]; exact tW5 152 (by decide +kernel) rfl, fun _ => h.symm⟩⟩
theorem fX8_40 {m : GM} (h : (gy m).cls = RX8) : gFL m 40 8 14 (.array .boolean) true := ⟨RX8, TX8, 20, tyX8, rfl, by decide, rfl, uX8, tyX8_ok, nmX8, rfl, rfl, Or.inl ⟨by rw [h]; exact tW5 153 (by decide +kernel) rfl, fun _ => h.symm⟩⟩
theorem fX8_44 {m : GM} (h : (gy m).cls = RX8) : gFL m 44 8 15 (.array .int) true := ⟨RX8, TX8, 20, tyX8, rfl, by decide, rfl, uX8, tyX8_ok, nmX8, rfl, rfl, Or.inl ⟨by rw [h]; exact tW5 154 (by decide +kernel) rfl, fun _ => h.symm⟩⟩
theorem fX8_47 {m : GM} (h : (gy m).cls = RX8) : gFL m 47 8 0 (.int) false := ⟨RX8, TX8, 20, tyX8, rfl, by decide, rfl, uX8, tyX8_ok, nmX8, rfl, rfl, Or.inl ⟨by rw [h]; exact tW5 139 (by decide +kernel) rfl, fun _ => h.symm⟩⟩
theorem fX8_102 {m : GM} (h : (gy m).cls = RX8) : gFL m 102 8 9 (.int) false := ⟨RX8, TX8, 20, tyX8, rfl, by decide, rfl, uX8, tyX8_ok, nmX8, rfl, rfl, Or.inl ⟨by rw [h]; exact tW5 148 (by decide +kernel) rfl, fun _ => h.symm⟩⟩
theorem fX8_105 {m : GM} (h : (gy m).cls = RX8) : gFL m 105 8 10 (.int) false := ⟨RX8, TX8, 20, tyX8, rfl, by decide, rfl, uX8, tyX8_ok, nmX8, rfl, rfl, Or.inl ⟨by rw [h]; exact tW5 149 (by decide +kernel) rfl, fun _ => h.symm⟩⟩
theorem fX8_138 {m : GM} (h : (gy m).cls = RX8) : gFL m 138 8 12 (.int) false := ⟨RX8, TX8, 20, tyX8, rfl, by decide, rfl, uX8, tyX8_ok, nmX8, rfl, rfl, Or.inl ⟨by rw [h]; exact tW5 151 (by decide +kernel) rfl, fun _ => h.symm⟩⟩
theorem fX8_146 {m : GM} (h : (gy m).cls = RX8) : gFL m 146 8 16 (.int) false := ⟨RX8, TX8, 20, tyX8, rfl, by decide, rfl, uX8, tyX8_ok, nmX8, rfl, rfl, Or.inl ⟨by rw [h]; exact tW5 155 (by decide +kernel) rfl, fun _ => h.symm⟩⟩
theorem fX8_153 {m : GM} (h : (gy m).cls = RX8) : gFL m 153 8 17 (.int) false := ⟨RX8, TX8, 20, tyX8, rfl, by decide, rfl, uX8, tyX8_ok, nmX8, rfl, rfl, Or.inl ⟨by rw [h]; exact tW5 156 (by decide +kernel) rfl, fun _ => h.symm⟩⟩
theorem fX8_156 {m : GM} (h : (gy m).cls = RX8) : gFL m 156 8 18 (.boolean) false := ⟨RX8, TX8, 20, tyX8, rfl, by decide, rfl, uX8, tyX8_ok, nmX8, rfl, rfl, Or.inl ⟨by rw [h]; exact tW5 157 (by decide +kernel) rfl, fun _ => h.symm⟩⟩
theorem fX8_170 {m : GM} (h : (gy m).cls = RX8) : gFL m 170 8 19 (.int) false := ⟨RX8, TX8, 20, tyX8, rfl, by decide, rfl, uX8, tyX8_ok, nmX8, rfl, rfl, Or.inl ⟨by rw [h]; exact tW5 158 (by decide +kernel) rfl, fun _ => h.symm⟩⟩
theorem kJ_abs : gCal mJ_abs 1 := ⟨tW5 60 rfl rfl, tW1 16 (by decide +kernel) rfl, by decide, by decide +kernel⟩
theorem kJ_floorMod : gCal mJ_floorMod 2 := ⟨tW2 105 rfl rfl, tW1 16 (by decide +kernel) rfl, by decide, by decide +kernel⟩
theorem kJ_max : gCal mJ_max 2 := ⟨tW4 38 rfl rfl, tW1 16 (by decide +kernel) rfl, by decide, by decide +kernel⟩
theorem kJ_min : gCal mJ_min 2 := ⟨tW4 41 rfl rfl, tW1 16 (by decide +kernel) rfl, by decide, by decide +kernel⟩
theorem kL_append : gCal mL_append 3 := ⟨tW2 205 rfl rfl, tW1 0 (by decide +kernel) rfl, by decide, by decide +kernel⟩
theorem kL_areasByJoining : gCal mL_areasByJoining 3 := ⟨tW3 148 rfl rfl, tW1 0 (by decide +kernel) rfl, by decide, by decide +kernel⟩
theorem kL_areasBySpreading : gCal mL_areasBySpreading 3 := ⟨tW3 123 rfl rfl, tW1 0 (by decide +kernel) rfl, by decide, by decide +kernel⟩
theorem kL_coneOf : gCal mL_coneOf 3 := ⟨tW3 167 rfl rfl, tW1 0 (by decide +kernel) rfl, by decide, by decide +kernel⟩
theorem kL_cut : gCal mL_cut 2 := ⟨tW4 71 rfl rfl, tW1 0 (by decide +kernel) rfl, by decide, by decide +kernel⟩
theorem kL_drawnByCone : gCal mL_drawnByCone 3 := ⟨tW3 175 rfl rfl, tW1 0 (by decide +kernel) rfl, by decide, by decide +kernel⟩
theorem kL_drawnByRug : gCal mL_drawnByRug 3 := ⟨tW3 183 rfl rfl, tW1 0 (by decide +kernel) rfl, by decide, by decide +kernel⟩
theorem kL_ease : gCal mL_ease 2 := ⟨tW4 103 rfl rfl, tW1 0 (by decide +kernel) rfl, by decide, by decide +kernel⟩
theorem kL_fillPlan : gCal mL_fillPlan 5 := ⟨tW4 27 rfl rfl, tW1 0 (by decide +kernel) rfl, by decide, by decide +kernel⟩
theorem kL_heightOf : gCal mL_heightOf 3 := ⟨tW3 101 rfl rfl, tW1 0 (by decide +kernel) rfl, by decide, by decide +kernel⟩
theorem kL_isSkipped : gCal mL_isSkipped 3 := ⟨tW3 112 rfl rfl, tW1 0 (by decide +kernel) rfl, by decide, by decide +kernel⟩
theorem kL_jump : gCal mL_jump 3 := ⟨tW4 92 rfl rfl, tW1 0 (by decide +kernel) rfl, by decide, by decide +kernel⟩
theorem kL_loopOf : gCal mL_loopOf 3 := ⟨tW3 93 rfl rfl, tW1 0 (by decide +kernel) rfl, by decide, by decide +kernel⟩
theorem kL_loopsBy : gCal mL_loopsBy 2 := ⟨tW5 78 rfl rfl, tW1 0 (by decide +kernel) rfl, by decide, by decide +kernel⟩
theorem kL_mend : gCal mL_mend 3 := ⟨tW4 145 rfl rfl, tW1 0 (by decide +kernel) rfl, by decide, by decide +kernel⟩
theorem kL_motifLength : gCal mL_motifLength 3 := ⟨tW3 229 rfl rfl, tW1 0 (by decide +kernel) rfl, by decide, by decide +kernel⟩
theorem kL_motifSign : gCal mL_motifSign 4 := ⟨tW4 4 rfl rfl, tW1 0 (by decide +kernel) rfl, by decide, by decide +kernel⟩
theorem kL_nearestByCells : gCal mL_nearestByCells 3 := ⟨tW5 67 rfl rfl, tW1 0 (by decide +kernel) rfl, by decide, by decide +kernel⟩
theorem kL_nearestByRings : gCal mL_nearestByRings 3 := ⟨tW5 45 rfl rfl, tW1 0 (by decide +kernel) rfl, by decide, by decide +kernel⟩
theorem kL_neededFor : gCal mL_neededFor 3 := ⟨tW3 210 rfl rfl, tW1 0 (by decide +kernel) rfl, by decide, by decide +kernel⟩
theorem kL_needleBy : gCal mL_needleBy 2 := ⟨tW5 89 rfl rfl, tW1 0 (by decide +kernel) rfl, by decide, by decide +kernel⟩
theorem kL_place : gCal mL_place 4 := ⟨tW4 125 rfl rfl, tW1 0 (by decide +kernel) rfl, by decide, by decide +kernel⟩
theorem kL_planOf : gCal mL_planOf 3 := ⟨tW3 65 rfl rfl, tW1 0 (by decide +kernel) rfl, by decide, by decide +kernel⟩
theorem kL_restore : gCal mL_restore 3 := ⟨tW5 127 rfl rfl, tW1 0 (by decide +kernel) rfl, by decide, by decide +kernel⟩
theorem kL_run : gCal mL_run 3 := ⟨tW4 214 rfl rfl, tW1 0 (by decide +kernel) rfl, by decide, by decide +kernel⟩
theorem kL_runText : gCal mL_runText 2 := ⟨tW5 19 rfl rfl, tW1 0 (by decide +kernel) rfl, by decide, by decide +kernel⟩
theorem kL_save : gCal mL_save 3 := ⟨tW5 116 rfl rfl, tW1 0 (by decide +kernel) rfl, by decide, by decide +kernel⟩
theorem kL_setHeight : gCal mL_setHeight 3 := ⟨tW4 118 rfl rfl, tW1 0 (by decide +kernel) rfl, by decide, by decide +kernel⟩
theorem kL_setPlan : gCal mL_setPlan 4 := ⟨tW4 16 rfl rfl, tW1 0 (by decide +kernel) rfl, by decide, by decide +kernel⟩
theorem kL_sew : gCal mL_sew 3 := ⟨tW4 84 rfl rfl, tW1 0 (by decide +kernel) rfl, by decide, by decide +kernel⟩
theorem kL_shear : gCal mL_shear 3 := ⟨tW4 180 rfl rfl, tW1 0 (by decide +kernel) rfl, by decide, by decide +kernel⟩
theorem kL_simulate : gCal mL_simulate 4 := ⟨tW5 103 rfl rfl, tW1 0 (by decide +kernel) rfl, by decide, by decide +kernel⟩
theorem kL_store : gCal mL_store 3 := ⟨tW4 191 rfl rfl, tW1 0 (by decide +kernel) rfl, by decide, by decide +kernel⟩
theorem kL_thread : gCal mL_thread 3 := ⟨tW4 45 rfl rfl, tW1 0 (by decide +kernel) rfl, by decide, by decide +kernel⟩
theorem kL_undo : gCal mL_undo 2 := ⟨tW5 26 rfl rfl, tW1 0 (by decide +kernel) rfl, by decide, by decide +kernel⟩
theorem kL_unpick : gCal mL_unpick 3 := ⟨tW4 163 rfl rfl, tW1 0 (by decide +kernel) rfl, by decide, by decide +kernel⟩
theorem kL_untilKnot : gCal mL_untilKnot 3 := ⟨tW3 222 rfl rfl, tW1 0 (by decide +kernel) rfl, by decide, by decide +kernel⟩
theorem kL_wasteOf : gCal mL_wasteOf 3 := ⟨tW3 199 rfl rfl, tW1 0 (by decide +kernel) rfl, by decide, by decide +kernel⟩
theorem kL_whyNoMending : gCal mL_whyNoMending 3 := ⟨tW5 38 rfl rfl, tW1 0 (by decide +kernel) rfl, by decide, by decide +kernel⟩
theorem kL_wind : gCal mL_wind 4 := ⟨tW4 133 rfl rfl, tW1 0 (by decide +kernel) rfl, by decide, by decide +kernel⟩
theorem kL_yarnBy : gCal mL_yarnBy 3 := ⟨tW5 96 rfl rfl, tW1 0 (by decide +kernel) rfl, by decide, by decide +kernel⟩
theorem kX0_chiefOf : gCal mX0_chiefOf 1 := ⟨tW3 164 rfl rfl, tW1 8 (by decide +kernel) rfl, by decide, by decide +kernel⟩
theorem jX0_chiefOf : gIn mX0_chiefOf := ⟨tW3 163 (by decide +kernel) rfl, tP (List.mem_of_getElem? (i := 7) (by decide +kernel)) rfl⟩
theorem kX0_countJoining : gCal mX0_countJoining 2 := ⟨tW3 156 rfl rfl, tW1 8 (by decide +kernel) rfl, by decide, by decide +kernel⟩
theorem jX0_countJoining : gIn mX0_countJoining := ⟨tW3 154 (by decide +kernel) rfl, tW3 155 (by decide +kernel) rfl⟩
theorem kX0_countSpreading : gCal mX0_countSpreading 2 := ⟨tW3 135 rfl rfl, tW1 8 (by decide +kernel) rfl, by decide, by decide +kernel⟩
theorem jX0_countSpreading : gIn mX0_countSpreading := ⟨tW3 133 (by decide +kernel) rfl, tW3 134 (by decide +kernel) rfl⟩
theorem kX0_init : gCal mX0_init 0 := ⟨tW1 180 rfl rfl, tW1 8 (by decide +kernel) rfl, by decide, by decide +kernel⟩
theorem kX0_joinBeside : gCal mX0_joinBeside 3 := ⟨tW3 160 rfl rfl, tW1 8 (by decide +kernel) rfl, by decide, by decide +kernel⟩
theorem jX0_joinBeside : gIn mX0_joinBeside := ⟨tW3 159 (by decide +kernel) rfl, tP (List.mem_of_getElem? (i := 6) (by decide +kernel)) rfl⟩
theorem kX0_reach : gCal mX0_reach 1 := ⟨tW3 144 rfl rfl, tW1 8 (by decide +kernel) rfl, by decide, by decide +kernel⟩
theorem jX0_reach : gIn mX0_reach := ⟨tW3 143 (by decide +kernel) rfl, tP (List.mem_of_getElem? (i := 5) (by decide +kernel)) rfl⟩
theorem kX0_spreadFrom : gCal mX0_spreadFrom 1 := ⟨tW3 140 rfl rfl, tW1 8 (by decide +kernel) rfl, by decide, by decide +kernel⟩
theorem jX0_spreadFrom : gIn mX0_spreadFrom := ⟨tW3 139 (by decide +kernel) rfl, tP (List.mem_of_getElem? (i := 4) (by decide +kernel)) rfl⟩
theorem kX1_clearCell : gCal mX1_clearCell 1 := ⟨tW4 177 rfl rfl, tW1 3 (by decide +kernel) rfl, by decide, by decide +kernel⟩
theorem jX1_clearCell : gIn mX1_clearCell := ⟨tW4 175 (by decide +kernel) rfl, tW4 176 (by decide +kernel) rfl⟩
theorem kX1_copyFrom : gCal mX1_copyFrom 1 := ⟨tW2 114 rfl rfl, tW1 3 (by decide +kernel) rfl, by decide, by decide +kernel⟩
theorem jX1_copyFrom : gIn mX1_copyFrom := ⟨tW2 112 (by decide +kernel) rfl, tW2 113 (by decide +kernel) rfl⟩
theorem kX1_countLoops : gCal mX1_countLoops 0 := ⟨tW2 34 rfl rfl, tW1 3 (by decide +kernel) rfl, by decide, by decide +kernel⟩
theorem jX1_countLoops : gIn mX1_countLoops := ⟨tW2 32 (by decide +kernel) rfl, tW2 33 (by decide +kernel) rfl⟩
theorem kX1_countMissing : gCal mX1_countMissing 0 := ⟨tW2 14 rfl rfl, tW1 3 (by decide +kernel) rfl, by decide, by decide +kernel⟩
theorem jX1_countMissing : gIn mX1_countMissing := ⟨tW2 12 (by decide +kernel) rfl, tW2 13 (by decide +kernel) rfl⟩
theorem kX1_countMissingOf : gCal mX1_countMissingOf 1 := ⟨tW3 218 rfl rfl, tW1 3 (by decide +kernel) rfl, by decide, by decide +kernel⟩
theorem jX1_countMissingOf : gIn mX1_countMissingOf := ⟨tW3 216 (by decide +kernel) rfl, tW3 217 (by decide +kernel) rfl⟩
theorem kX1_countRight : gCal mX1_countRight 0 := ⟨tW2 6 rfl rfl, tW1 3 (by decide +kernel) rfl, by decide, by decide +kernel⟩
theorem jX1_countRight : gIn mX1_countRight := ⟨tW2 4 (by decide +kernel) rfl, tW2 5 (by decide +kernel) rfl⟩
theorem kX1_countSkipped : gCal mX1_countSkipped 0 := ⟨tW2 42 rfl rfl, tW1 3 (by decide +kernel) rfl, by decide, by decide +kernel⟩
theorem jX1_countSkipped : gIn mX1_countSkipped := ⟨tW2 40 (by decide +kernel) rfl, tW2 41 (by decide +kernel) rfl⟩
theorem kX1_fillBetween : gCal mX1_fillBetween 3 := ⟨tW4 35 rfl rfl, tW1 3 (by decide +kernel) rfl, by decide, by decide +kernel⟩
theorem jX1_fillBetween : gIn mX1_fillBetween := ⟨tW4 33 (by decide +kernel) rfl, tW4 34 (by decide +kernel) rfl⟩
theorem kX1_firstInRing : gCal mX1_firstInRing 3 := ⟨tW5 57 rfl rfl, tW1 3 (by decide +kernel) rfl, by decide, by decide +kernel⟩
theorem jX1_firstInRing : gIn mX1_firstInRing := ⟨tW5 56 (by decide +kernel) rfl, tP (List.mem_of_getElem? (i := 15) (by decide +kernel)) rfl⟩
theorem kX1_heightAt : gCal mX1_heightAt 1 := ⟨tW3 109 rfl rfl, tW1 3 (by decide +kernel) rfl, by decide, by decide +kernel⟩
theorem jX1_heightAt : gIn mX1_heightAt := ⟨tW3 107 (by decide +kernel) rfl, tW3 108 (by decide +kernel) rfl⟩
theorem kX1_init : gCal mX1_init 0 := ⟨tW1 36 rfl rfl, tW1 3 (by decide +kernel) rfl, by decide, by decide +kernel⟩
theorem kX1_loopAt : gCal mX1_loopAt 1 := ⟨tW2 26 rfl rfl, tW1 3 (by decide +kernel) rfl, by decide, by decide +kernel⟩
theorem jX1_loopAt : gIn mX1_loopAt := ⟨tW2 24 (by decide +kernel) rfl, tW2 25 (by decide +kernel) rfl⟩
theorem kX1_missesAt : gCal mX1_missesAt 3 := ⟨tW5 64 rfl rfl, tW1 3 (by decide +kernel) rfl, by decide, by decide +kernel⟩
theorem jX1_missesAt : gIn mX1_missesAt := ⟨tW5 63 (by decide +kernel) rfl, tP (List.mem_of_getElem? (i := 16) (by decide +kernel)) rfl⟩
theorem kX1_missingAt : gCal mX1_missingAt 1 := ⟨tW2 18 rfl rfl, tW1 3 (by decide +kernel) rfl, by decide, by decide +kernel⟩
theorem jX1_missingAt : gIn mX1_missingAt := ⟨tW2 16 (by decide +kernel) rfl, tW2 17 (by decide +kernel) rfl⟩
theorem kX1_nearestInCells : gCal mX1_nearestInCells 2 := ⟨tW5 75 rfl rfl, tW1 3 (by decide +kernel) rfl, by decide, by decide +kernel⟩
theorem jX1_nearestInCells : gIn mX1_nearestInCells := ⟨tW5 73 (by decide +kernel) rfl, tW5 74 (by decide +kernel) rfl⟩
theorem kX1_nearestInRings : gCal mX1_nearestInRings 2 := ⟨tW5 53 rfl rfl, tW1 3 (by decide +kernel) rfl, by decide, by decide +kernel⟩
theorem jX1_nearestInRings : gIn mX1_nearestInRings := ⟨tW5 51 (by decide +kernel) rfl, tW5 52 (by decide +kernel) rfl⟩
theorem kX1_planAt : gCal mX1_planAt 1 := ⟨tW2 22 rfl rfl, tW1 3 (by decide +kernel) rfl, by decide, by decide +kernel⟩
theorem jX1_planAt : gIn mX1_planAt := ⟨tW2 20 (by decide +kernel) rfl, tW2 21 (by decide +kernel) rfl⟩
theorem kX1_putLoop : gCal mX1_putLoop 3 := ⟨tW2 183 rfl rfl, tW1 3 (by decide +kernel) rfl, by decide, by decide +kernel⟩
theorem jX1_putLoop : gIn mX1_putLoop := ⟨tW2 181 (by decide +kernel) rfl, tW2 182 (by decide +kernel) rfl⟩
theorem kX1_putSkipped : gCal mX1_putSkipped 1 := ⟨tW2 179 rfl rfl, tW1 3 (by decide +kernel) rfl, by decide, by decide +kernel⟩
theorem jX1_putSkipped : gIn mX1_putSkipped := ⟨tW2 177 (by decide +kernel) rfl, tW2 178 (by decide +kernel) rfl⟩
theorem kX1_setPlanAt : gCal mX1_setPlanAt 2 := ⟨tW4 24 rfl rfl, tW1 3 (by decide +kernel) rfl, by decide, by decide +kernel⟩
theorem jX1_setPlanAt : gIn mX1_setPlanAt := ⟨tW4 22 (by decide +kernel) rfl, tW4 23 (by decide +kernel) rfl⟩
theorem kX1_skippedAt : gCal mX1_skippedAt 1 := ⟨tW3 120 rfl rfl, tW1 3 (by decide +kernel) rfl, by decide, by decide +kernel⟩
theorem jX1_skippedAt : gIn mX1_skippedAt := ⟨tW3 118 (by decide +kernel) rfl, tW3 119 (by decide +kernel) rfl⟩
theorem kX1_sumHeights : gCal mX1_sumHeights 0 := ⟨tW2 55 rfl rfl, tW1 3 (by decide +kernel) rfl, by decide, by decide +kernel⟩
theorem jX1_sumHeights : gIn mX1_sumHeights := ⟨tW2 53 (by decide +kernel) rfl, tW2 54 (by decide +kernel) rfl⟩
theorem kX1_yarnInLoops : gCal mX1_yarnInLoops 1 := ⟨tW3 191 rfl rfl, tW1 3 (by decide +kernel) rfl, by decide, by decide +kernel⟩
theorem jX1_yarnInLoops : gIn mX1_yarnInLoops := ⟨tW3 189 (by decide +kernel) rfl, tW3 190 (by decide +kernel) rfl⟩
theorem kX2_init : gCal mX2_init 0 := ⟨tW1 131 rfl rfl, tW1 6 (by decide +kernel) rfl, by decide, by decide +kernel⟩
theorem kX2_remember : gCal mX2_remember 1 := ⟨tW2 102 rfl rfl, tW1 6 (by decide +kernel) rfl, by decide, by decide +kernel⟩
theorem jX2_remember : gIn mX2_remember := ⟨tW2 100 (by decide +kernel) rfl, tW2 101 (by decide +kernel) rfl⟩
theorem kX2_takeBack : gCal mX2_takeBack 1 := ⟨tW5 35 rfl rfl, tW1 6 (by decide +kernel) rfl, by decide, by decide +kernel⟩
theorem jX2_takeBack : gIn mX2_takeBack := ⟨tW5 33 (by decide +kernel) rfl, tW5 34 (by decide +kernel) rfl⟩
theorem kX3_doOrder : gCal mX3_doOrder 3 := ⟨tW4 237 rfl rfl, tW1 7 (by decide +kernel) rfl, by decide, by decide +kernel⟩
theorem jX3_doOrder : gIn mX3_doOrder := ⟨tW4 236 (by decide +kernel) rfl, tP (List.mem_of_getElem? (i := 12) (by decide +kernel)) rfl⟩
theorem kX3_endGroup : gCal mX3_endGroup 1 := ⟨tW4 233 rfl rfl, tW1 7 (by decide +kernel) rfl, by decide, by decide +kernel⟩
theorem jX3_endGroup : gIn mX3_endGroup := ⟨tW4 232 (by decide +kernel) rfl, tP (List.mem_of_getElem? (i := 11) (by decide +kernel)) rfl⟩
theorem kX3_enter : gCal mX3_enter 1 := ⟨tW4 227 rfl rfl, tW1 7 (by decide +kernel) rfl, by decide, by decide +kernel⟩
theorem jX3_enter : gIn mX3_enter := ⟨tW4 226 (by decide +kernel) rfl, tP (List.mem_of_getElem? (i := 10) (by decide +kernel)) rfl⟩
theorem kX3_goTo : gCal mX3_goTo 1 := ⟨tW5 5 rfl rfl, tW1 7 (by decide +kernel) rfl, by decide, by decide +kernel⟩
theorem jX3_goTo : gIn mX3_goTo := ⟨tW5 4 (by decide +kernel) rfl, tP (List.mem_of_getElem? (i := 13) (by decide +kernel)) rfl⟩
theorem kX3_init : gCal mX3_init 0 := ⟨tW1 151 rfl rfl, tW1 7 (by decide +kernel) rfl, by decide, by decide +kernel⟩
theorem kX3_play : gCal mX3_play 2 := ⟨tW4 223 rfl rfl, tW1 7 (by decide +kernel) rfl, by decide, by decide +kernel⟩
theorem jX3_play : gIn mX3_play := ⟨tW4 221 (by decide +kernel) rfl, tW4 222 (by decide +kernel) rfl⟩
theorem kX3_signsOf : gCal mX3_signsOf 1 := ⟨tW5 1 rfl rfl, tW1 7 (by decide +kernel) rfl, by decide, by decide +kernel⟩
theorem kX3_startGroup : gCal mX3_startGroup 2 := ⟨tW5 16 rfl rfl, tW1 7 (by decide +kernel) rfl, by decide, by decide +kernel⟩
theorem jX3_startGroup : gIn mX3_startGroup := ⟨tW5 15 (by decide +kernel) rfl, tP (List.mem_of_getElem? (i := 14) (by decide +kernel)) rfl⟩
theorem kX4_copyFrom : gCal mX4_copyFrom 1 := ⟨tW2 110 rfl rfl, tW1 2 (by decide +kernel) rfl, by decide, by decide +kernel⟩
theorem jX4_copyFrom : gIn mX4_copyFrom := ⟨tW2 108 (by decide +kernel) rfl, tW2 109 (by decide +kernel) rfl⟩
theorem kX4_feelKnot : gCal mX4_feelKnot 1 := ⟨tW2 197 rfl rfl, tW1 2 (by decide +kernel) rfl, by decide, by decide +kernel⟩
theorem jX4_feelKnot : gIn mX4_feelKnot := ⟨tW2 196 (by decide +kernel) rfl, tP (List.mem_of_getElem? (i := 1) (by decide +kernel)) rfl⟩
theorem kX4_goOn : gCal mX4_goOn 0 := ⟨tW2 201 rfl rfl, tW1 2 (by decide +kernel) rfl, by decide, by decide +kernel⟩
theorem jX4_goOn : gIn mX4_goOn := ⟨tW2 200 (by decide +kernel) rfl, tP (List.mem_of_getElem? (i := 2) (by decide +kernel)) rfl⟩
theorem kX4_init : gCal mX4_init 0 := ⟨tW1 30 rfl rfl, tW1 2 (by decide +kernel) rfl, by decide, by decide +kernel⟩
theorem kX4_isTight : gCal mX4_isTight 0 := ⟨tW2 90 rfl rfl, tW1 2 (by decide +kernel) rfl, by decide, by decide +kernel⟩
theorem jX4_isTight : gIn mX4_isTight := ⟨tW2 88 (by decide +kernel) rfl, tW2 89 (by decide +kernel) rfl⟩
theorem kX4_jumpOver : gCal mX4_jumpOver 1 := ⟨tW4 100 rfl rfl, tW1 2 (by decide +kernel) rfl, by decide, by decide +kernel⟩
theorem jX4_jumpOver : gIn mX4_jumpOver := ⟨tW4 98 (by decide +kernel) rfl, tW4 99 (by decide +kernel) rfl⟩
theorem kX4_keepMotif : gCal mX4_keepMotif 2 := ⟨tW2 126 rfl rfl, tW1 2 (by decide +kernel) rfl, by decide, by decide +kernel⟩
theorem jX4_keepMotif : gIn mX4_keepMotif := ⟨tW2 124 (by decide +kernel) rfl, tW2 125 (by decide +kernel) rfl⟩
theorem kX4_mendAt : gCal mX4_mendAt 1 := ⟨tW4 160 rfl rfl, tW1 2 (by decide +kernel) rfl, by decide, by decide +kernel⟩
theorem jX4_mendAt : gIn mX4_mendAt := ⟨tW4 158 (by decide +kernel) rfl, tW4 159 (by decide +kernel) rfl⟩
theorem kX4_motifAt : gCal mX4_motifAt 1 := ⟨tW4 1 rfl rfl, tW1 2 (by decide +kernel) rfl, by decide, by decide +kernel⟩
theorem jX4_motifAt : gIn mX4_motifAt := ⟨tW3 239 (by decide +kernel) rfl, tW4 0 (by decide +kernel) rfl⟩
theorem kX4_punch : gCal mX4_punch 0 := ⟨tW2 170 rfl rfl, tW1 2 (by decide +kernel) rfl, by decide, by decide +kernel⟩
theorem jX4_punch : gIn mX4_punch := ⟨tW2 169 (by decide +kernel) rfl, tP (List.mem_of_getElem? (i := 0) (by decide +kernel)) rfl⟩
theorem kX4_reasonAgainstMending : gCal mX4_reasonAgainstMending 1 := ⟨tW4 153 rfl rfl, tW1 2 (by decide +kernel) rfl, by decide, by decide +kernel⟩
theorem jX4_reasonAgainstMending : gIn mX4_reasonAgainstMending := ⟨tW4 151 (by decide +kernel) rfl, tW4 152 (by decide +kernel) rfl⟩
theorem kX4_reasonAgainstStitch : gCal mX4_reasonAgainstStitch 0 := ⟨tW2 148 rfl rfl, tW1 2 (by decide +kernel) rfl, by decide, by decide +kernel⟩
theorem jX4_reasonAgainstStitch : gIn mX4_reasonAgainstStitch := ⟨tW2 146 (by decide +kernel) rfl, tW2 147 (by decide +kernel) rfl⟩
theorem kX4_sewUpTo : gCal mX4_sewUpTo 1 := ⟨tW2 165 rfl rfl, tW1 2 (by decide +kernel) rfl, by decide, by decide +kernel⟩
theorem jX4_sewUpTo : gIn mX4_sewUpTo := ⟨tW2 163 (by decide +kernel) rfl, tW2 164 (by decide +kernel) rfl⟩
theorem kX4_shearTo : gCal mX4_shearTo 1 := ⟨tW4 188 rfl rfl, tW1 2 (by decide +kernel) rfl, by decide, by decide +kernel⟩
theorem jX4_shearTo : gIn mX4_shearTo := ⟨tW4 186 (by decide +kernel) rfl, tW4 187 (by decide +kernel) rfl⟩
theorem kX4_tryCut : gCal mX4_tryCut 0 := ⟨tW4 64 rfl rfl, tW1 2 (by decide +kernel) rfl, by decide, by decide +kernel⟩
theorem jX4_tryCut : gIn mX4_tryCut := ⟨tW4 62 (by decide +kernel) rfl, tW4 63 (by decide +kernel) rfl⟩
theorem kX4_tryEase : gCal mX4_tryEase 0 := ⟨tW4 111 rfl rfl, tW1 2 (by decide +kernel) rfl, by decide, by decide +kernel⟩
theorem jX4_tryEase : gIn mX4_tryEase := ⟨tW4 109 (by decide +kernel) rfl, tW4 110 (by decide +kernel) rfl⟩
theorem kX4_tryThread : gCal mX4_tryThread 1 := ⟨tW4 59 rfl rfl, tW1 2 (by decide +kernel) rfl, by decide, by decide +kernel⟩
theorem jX4_tryThread : gIn mX4_tryThread := ⟨tW4 57 (by decide +kernel) rfl, tW4 58 (by decide +kernel) rfl⟩
theorem kX4_tryUnpick : gCal mX4_tryUnpick 1 := ⟨tW4 172 rfl rfl, tW1 2 (by decide +kernel) rfl, by decide, by decide +kernel⟩
theorem jX4_tryUnpick : gIn mX4_tryUnpick := ⟨tW4 170 (by decide +kernel) rfl, tW4 171 (by decide +kernel) rfl⟩
theorem kX4_turnBy : gCal mX4_turnBy 1 := ⟨tW2 135 rfl rfl, tW1 2 (by decide +kernel) rfl, by decide, by decide +kernel⟩
theorem jX4_turnBy : gIn mX4_turnBy := ⟨tW2 133 (by decide +kernel) rfl, tW2 134 (by decide +kernel) rfl⟩
theorem kX5_add : gCal mX5_add 1 := ⟨tW3 62 rfl rfl, tW1 5 (by decide +kernel) rfl, by decide, by decide +kernel⟩
theorem jX5_add : gIn mX5_add := ⟨tW3 60 (by decide +kernel) rfl, tW3 61 (by decide +kernel) rfl⟩
theorem kX5_awaitedAfter : gCal mX5_awaitedAfter 3 := ⟨tW1 232 rfl rfl, tW1 5 (by decide +kernel) rfl, by decide, by decide +kernel⟩
theorem kX5_copyFrom : gCal mX5_copyFrom 1 := ⟨tW2 130 rfl rfl, tW1 5 (by decide +kernel) rfl, by decide, by decide +kernel⟩
theorem jX5_copyFrom : gIn mX5_copyFrom := ⟨tW2 128 (by decide +kernel) rfl, tW2 129 (by decide +kernel) rfl⟩
theorem kX5_digitAt : gCal mX5_digitAt 1 := ⟨tW4 208 rfl rfl, tW1 5 (by decide +kernel) rfl, by decide, by decide +kernel⟩
theorem jX5_digitAt : gIn mX5_digitAt := ⟨tW4 206 (by decide +kernel) rfl, tW4 207 (by decide +kernel) rfl⟩
theorem kX5_endOfOrder : gCal mX5_endOfOrder 3 := ⟨tW1 238 rfl rfl, tW1 5 (by decide +kernel) rfl, by decide, by decide +kernel⟩
theorem kX5_firstError : gCal mX5_firstError 0 := ⟨tW1 229 rfl rfl, tW1 5 (by decide +kernel) rfl, by decide, by decide +kernel⟩
theorem jX5_firstError : gIn mX5_firstError := ⟨tW1 227 (by decide +kernel) rfl, tW1 228 (by decide +kernel) rfl⟩
theorem kX5_hasMotifFrom : gCal mX5_hasMotifFrom 1 := ⟨tW4 204 rfl rfl, tW1 5 (by decide +kernel) rfl, by decide, by decide +kernel⟩
theorem jX5_hasMotifFrom : gIn mX5_hasMotifFrom := ⟨tW4 202 (by decide +kernel) rfl, tW4 203 (by decide +kernel) rfl⟩
theorem kX5_init : gCal mX5_init 0 := ⟨tW1 76 rfl rfl, tW1 5 (by decide +kernel) rfl, by decide, by decide +kernel⟩
theorem kX5_signAt : gCal mX5_signAt 1 := ⟨tW4 13 rfl rfl, tW1 5 (by decide +kernel) rfl, by decide, by decide +kernel⟩
theorem jX5_signAt : gIn mX5_signAt := ⟨tW4 11 (by decide +kernel) rfl, tW4 12 (by decide +kernel) rfl⟩
theorem kX5_startOfOrder : gCal mX5_startOfOrder 2 := ⟨tW1 235 rfl rfl, tW1 5 (by decide +kernel) rfl, by decide, by decide +kernel⟩
theorem kX6_addWaste : gCal mX6_addWaste 2 := ⟨tW4 115 rfl rfl, tW1 4 (by decide +kernel) rfl, by decide, by decide +kernel⟩
theorem jX6_addWaste : gIn mX6_addWaste := ⟨tW4 113 (by decide +kernel) rfl, tW4 114 (by decide +kernel) rfl⟩
theorem kX6_copyFrom : gCal mX6_copyFrom 1 := ⟨tW2 121 rfl rfl, tW1 4 (by decide +kernel) rfl, by decide, by decide +kernel⟩
theorem jX6_copyFrom : gIn mX6_copyFrom := ⟨tW2 119 (by decide +kernel) rfl, tW2 120 (by decide +kernel) rfl⟩
theorem kX6_draw : gCal mX6_draw 2 := ⟨tW2 191 rfl rfl, tW1 4 (by decide +kernel) rfl, by decide, by decide +kernel⟩
theorem jX6_draw : gIn mX6_draw := ⟨tW2 189 (by decide +kernel) rfl, tW2 190 (by decide +kernel) rfl⟩
theorem kX6_drawEnd : gCal mX6_drawEnd 1 := ⟨tW4 68 rfl rfl, tW1 4 (by decide +kernel) rfl, by decide, by decide +kernel⟩
theorem jX6_drawEnd : gIn mX6_drawEnd := ⟨tW4 66 (by decide +kernel) rfl, tW4 67 (by decide +kernel) rfl⟩
theorem kX6_drawFloat : gCal mX6_drawFloat 2 := ⟨tW2 187 rfl rfl, tW1 4 (by decide +kernel) rfl, by decide, by decide +kernel⟩
theorem jX6_drawFloat : gIn mX6_drawFloat := ⟨tW2 185 (by decide +kernel) rfl, tW2 186 (by decide +kernel) rfl⟩
theorem kX6_drawn : gCal mX6_drawn 1 := ⟨tW2 174 rfl rfl, tW1 4 (by decide +kernel) rfl, by decide, by decide +kernel⟩
theorem jX6_drawn : gIn mX6_drawn := ⟨tW2 172 (by decide +kernel) rfl, tW2 173 (by decide +kernel) rfl⟩
theorem kX6_hasEnd : gCal mX6_hasEnd 1 := ⟨tW4 53 rfl rfl, tW1 4 (by decide +kernel) rfl, by decide, by decide +kernel⟩
theorem jX6_hasEnd : gIn mX6_hasEnd := ⟨tW4 51 (by decide +kernel) rfl, tW4 52 (by decide +kernel) rfl⟩
theorem kX6_init : gCal mX6_init 0 := ⟨tW1 53 rfl rfl, tW1 4 (by decide +kernel) rfl, by decide, by decide +kernel⟩
theorem kX6_onCone : gCal mX6_onCone 1 := ⟨tW2 153 rfl rfl, tW1 4 (by decide +kernel) rfl, by decide, by decide +kernel⟩
theorem jX6_onCone : gIn mX6_onCone := ⟨tW2 151 (by decide +kernel) rfl, tW2 152 (by decide +kernel) rfl⟩
theorem kX6_outsideLoops : gCal mX6_outsideLoops 1 := ⟨tW3 196 rfl rfl, tW1 4 (by decide +kernel) rfl, by decide, by decide +kernel⟩
theorem jX6_outsideLoops : gIn mX6_outsideLoops := ⟨tW3 194 (by decide +kernel) rfl, tW3 195 (by decide +kernel) rfl⟩
theorem kX6_putOn : gCal mX6_putOn 2 := ⟨tW4 142 rfl rfl, tW1 4 (by decide +kernel) rfl, by decide, by decide +kernel⟩
theorem jX6_putOn : gIn mX6_putOn := ⟨tW4 140 (by decide +kernel) rfl, tW4 141 (by decide +kernel) rfl⟩
theorem kX6_wasted : gCal mX6_wasted 1 := ⟨tW3 207 rfl rfl, tW1 4 (by decide +kernel) rfl, by decide, by decide +kernel⟩
theorem jX6_wasted : gIn mX6_wasted := ⟨tW3 205 (by decide +kernel) rfl, tW3 206 (by decide +kernel) rfl⟩
theorem kX7_append : gCal mX7_append 1 := ⟨tW2 211 rfl rfl, tW1 1 (by decide +kernel) rfl, by decide, by decide +kernel⟩
theorem jX7_append : gIn mX7_append := ⟨tW2 209 (by decide +kernel) rfl, tW2 210 (by decide +kernel) rfl⟩
theorem kX7_areasByJoining : gCal mX7_areasByJoining 1 := ⟨tW3 152 rfl rfl, tW1 1 (by decide +kernel) rfl, by decide, by decide +kernel⟩
theorem jX7_areasByJoining : gIn mX7_areasByJoining := ⟨tW3 150 (by decide +kernel) rfl, tW3 151 (by decide +kernel) rfl⟩
theorem kX7_areasBySpreading : gCal mX7_areasBySpreading 1 := ⟨tW3 127 rfl rfl, tW1 1 (by decide +kernel) rfl, by decide, by decide +kernel⟩
theorem jX7_areasBySpreading : gIn mX7_areasBySpreading := ⟨tW3 125 (by decide +kernel) rfl, tW3 126 (by decide +kernel) rfl⟩
theorem kX7_beside : gCal mX7_beside 2 := ⟨tW2 82 rfl rfl, tW1 1 (by decide +kernel) rfl, by decide, by decide +kernel⟩
theorem kX7_canGo : gCal mX7_canGo 0 := ⟨tW2 79 rfl rfl, tW1 1 (by decide +kernel) rfl, by decide, by decide +kernel⟩
theorem jX7_canGo : gIn mX7_canGo := ⟨tW2 77 (by decide +kernel) rfl, tW2 78 (by decide +kernel) rfl⟩
theorem kX7_clearText : gCal mX7_clearText 0 := ⟨tW1 221 rfl rfl, tW1 1 (by decide +kernel) rfl, by decide, by decide +kernel⟩
theorem jX7_clearText : gIn mX7_clearText := ⟨tW1 219 (by decide +kernel) rfl, tW1 220 (by decide +kernel) rfl⟩
theorem kX7_coneOf : gCal mX7_coneOf 1 := ⟨tW3 171 rfl rfl, tW1 1 (by decide +kernel) rfl, by decide, by decide +kernel⟩
theorem jX7_coneOf : gIn mX7_coneOf := ⟨tW3 169 (by decide +kernel) rfl, tW3 170 (by decide +kernel) rfl⟩
theorem kX7_couldSew : gCal mX7_couldSew 0 := ⟨tW2 160 rfl rfl, tW1 1 (by decide +kernel) rfl, by decide, by decide +kernel⟩
theorem jX7_couldSew : gIn mX7_couldSew := ⟨tW2 158 (by decide +kernel) rfl, tW2 159 (by decide +kernel) rfl⟩
theorem kX7_cut : gCal mX7_cut 0 := ⟨tW4 75 rfl rfl, tW1 1 (by decide +kernel) rfl, by decide, by decide +kernel⟩
theorem jX7_cut : gIn mX7_cut := ⟨tW4 73 (by decide +kernel) rfl, tW4 74 (by decide +kernel) rfl⟩
theorem kX7_density : gCal mX7_density 0 := ⟨tW2 46 rfl rfl, tW1 1 (by decide +kernel) rfl, by decide, by decide +kernel⟩
theorem jX7_density : gIn mX7_density := ⟨tW2 44 (by decide +kernel) rfl, tW2 45 (by decide +kernel) rfl⟩
theorem kX7_drawnByCone : gCal mX7_drawnByCone 1 := ⟨tW3 179 rfl rfl, tW1 1 (by decide +kernel) rfl, by decide, by decide +kernel⟩
theorem jX7_drawnByCone : gIn mX7_drawnByCone := ⟨tW3 177 (by decide +kernel) rfl, tW3 178 (by decide +kernel) rfl⟩
theorem kX7_drawnByRug : gCal mX7_drawnByRug 1 := ⟨tW3 187 rfl rfl, tW1 1 (by decide +kernel) rfl, by decide, by decide +kernel⟩
theorem jX7_drawnByRug : gIn mX7_drawnByRug := ⟨tW3 185 (by decide +kernel) rfl, tW3 186 (by decide +kernel) rfl⟩
theorem kX7_ease : gCal mX7_ease 0 := ⟨tW4 107 rfl rfl, tW1 1 (by decide +kernel) rfl, by decide, by decide +kernel⟩
theorem jX7_ease : gIn mX7_ease := ⟨tW4 105 (by decide +kernel) rfl, tW4 106 (by decide +kernel) rfl⟩
theorem kX7_errorPosition : gCal mX7_errorPosition 0 := ⟨tW1 225 rfl rfl, tW1 1 (by decide +kernel) rfl, by decide, by decide +kernel⟩
theorem jX7_errorPosition : gIn mX7_errorPosition := ⟨tW1 223 (by decide +kernel) rfl, tW1 224 (by decide +kernel) rfl⟩
theorem kX7_fillPlan : gCal mX7_fillPlan 3 := ⟨tW4 31 rfl rfl, tW1 1 (by decide +kernel) rfl, by decide, by decide +kernel⟩
theorem jX7_fillPlan : gIn mX7_fillPlan := ⟨tW4 29 (by decide +kernel) rfl, tW4 30 (by decide +kernel) rfl⟩
theorem kX7_heading : gCal mX7_heading 0 := ⟨tW2 63 rfl rfl, tW1 1 (by decide +kernel) rfl, by decide, by decide +kernel⟩
theorem jX7_heading : gIn mX7_heading := ⟨tW2 61 (by decide +kernel) rfl, tW2 62 (by decide +kernel) rfl⟩
theorem kX7_height : gCal mX7_height 0 := ⟨tW2 71 rfl rfl, tW1 1 (by decide +kernel) rfl, by decide, by decide +kernel⟩
theorem jX7_height : gIn mX7_height := ⟨tW2 69 (by decide +kernel) rfl, tW2 70 (by decide +kernel) rfl⟩
theorem kX7_heightOf : gCal mX7_heightOf 1 := ⟨tW3 105 rfl rfl, tW1 1 (by decide +kernel) rfl, by decide, by decide +kernel⟩
theorem jX7_heightOf : gIn mX7_heightOf := ⟨tW3 103 (by decide +kernel) rfl, tW3 104 (by decide +kernel) rfl⟩
theorem kX7_init : gCal mX7_init 0 := ⟨tW1 22 rfl rfl, tW1 1 (by decide +kernel) rfl, by decide, by decide +kernel⟩
theorem kX7_isSkipped : gCal mX7_isSkipped 1 := ⟨tW3 116 rfl rfl, tW1 1 (by decide +kernel) rfl, by decide, by decide +kernel⟩
theorem jX7_isSkipped : gIn mX7_isSkipped := ⟨tW3 114 (by decide +kernel) rfl, tW3 115 (by decide +kernel) rfl⟩
theorem kX7_jump : gCal mX7_jump 1 := ⟨tW4 96 rfl rfl, tW1 1 (by decide +kernel) rfl, by decide, by decide +kernel⟩
theorem jX7_jump : gIn mX7_jump := ⟨tW4 94 (by decide +kernel) rfl, tW4 95 (by decide +kernel) rfl⟩
theorem kX7_knots : gCal mX7_knots 0 := ⟨tW2 94 rfl rfl, tW1 1 (by decide +kernel) rfl, by decide, by decide +kernel⟩
theorem jX7_knots : gIn mX7_knots := ⟨tW2 92 (by decide +kernel) rfl, tW2 93 (by decide +kernel) rfl⟩
theorem kX7_loopOf : gCal mX7_loopOf 1 := ⟨tW3 97 rfl rfl, tW1 1 (by decide +kernel) rfl, by decide, by decide +kernel⟩
theorem jX7_loopOf : gIn mX7_loopOf := ⟨tW3 95 (by decide +kernel) rfl, tW3 96 (by decide +kernel) rfl⟩
theorem kX7_loopsBy : gCal mX7_loopsBy 0 := ⟨tW5 82 rfl rfl, tW1 1 (by decide +kernel) rfl, by decide, by decide +kernel⟩
theorem jX7_loopsBy : gIn mX7_loopsBy := ⟨tW5 80 (by decide +kernel) rfl, tW5 81 (by decide +kernel) rfl⟩
theorem kX7_meanHeight : gCal mX7_meanHeight 0 := ⟨tW2 51 rfl rfl, tW1 1 (by decide +kernel) rfl, by decide, by decide +kernel⟩
theorem jX7_meanHeight : gIn mX7_meanHeight := ⟨tW2 49 (by decide +kernel) rfl, tW2 50 (by decide +kernel) rfl⟩
theorem kX7_mend : gCal mX7_mend 1 := ⟨tW4 149 rfl rfl, tW1 1 (by decide +kernel) rfl, by decide, by decide +kernel⟩
theorem jX7_mend : gIn mX7_mend := ⟨tW4 147 (by decide +kernel) rfl, tW4 148 (by decide +kernel) rfl⟩
theorem kX7_missing : gCal mX7_missing 0 := ⟨tW2 10 rfl rfl, tW1 1 (by decide +kernel) rfl, by decide, by decide +kernel⟩
theorem jX7_missing : gIn mX7_missing := ⟨tW2 8 (by decide +kernel) rfl, tW2 9 (by decide +kernel) rfl⟩
theorem kX7_motifLength : gCal mX7_motifLength 1 := ⟨tW3 233 rfl rfl, tW1 1 (by decide +kernel) rfl, by decide, by decide +kernel⟩
theorem jX7_motifLength : gIn mX7_motifLength := ⟨tW3 231 (by decide +kernel) rfl, tW3 232 (by decide +kernel) rfl⟩
theorem kX7_motifSign : gCal mX7_motifSign 2 := ⟨tW4 8 rfl rfl, tW1 1 (by decide +kernel) rfl, by decide, by decide +kernel⟩
theorem jX7_motifSign : gIn mX7_motifSign := ⟨tW4 6 (by decide +kernel) rfl, tW4 7 (by decide +kernel) rfl⟩
theorem kX7_nearestByCells : gCal mX7_nearestByCells 1 := ⟨tW5 71 rfl rfl, tW1 1 (by decide +kernel) rfl, by decide, by decide +kernel⟩
theorem jX7_nearestByCells : gIn mX7_nearestByCells := ⟨tW5 69 (by decide +kernel) rfl, tW5 70 (by decide +kernel) rfl⟩
theorem kX7_nearestByRings : gCal mX7_nearestByRings 1 := ⟨tW5 49 rfl rfl, tW1 1 (by decide +kernel) rfl, by decide, by decide +kernel⟩
theorem jX7_nearestByRings : gIn mX7_nearestByRings := ⟨tW5 47 (by decide +kernel) rfl, tW5 48 (by decide +kernel) rfl⟩
theorem kX7_needCell : gCal mX7_needCell 1 := ⟨tW3 73 rfl rfl, tW1 1 (by decide +kernel) rfl, by decide, by decide +kernel⟩
theorem kX7_needColour : gCal mX7_needColour 1 := ⟨tW3 130 rfl rfl, tW1 1 (by decide +kernel) rfl, by decide, by decide +kernel⟩
theorem kX7_needMotif : gCal mX7_needMotif 1 := ⟨tW3 236 rfl rfl, tW1 1 (by decide +kernel) rfl, by decide, by decide +kernel⟩
theorem kX7_needMotifText : gCal mX7_needMotifText 0 := ⟨tW4 199 rfl rfl, tW1 1 (by decide +kernel) rfl, by decide, by decide +kernel⟩
theorem jX7_needMotifText : gIn mX7_needMotifText := ⟨tW4 198 (by decide +kernel) rfl, tP (List.mem_of_getElem? (i := 9) (by decide +kernel)) rfl⟩
theorem kX7_needRange : gCal mX7_needRange 3 := ⟨tW2 214 rfl rfl, tW1 1 (by decide +kernel) rfl, by decide, by decide +kernel⟩
theorem kX7_needSlot : gCal mX7_needSlot 1 := ⟨tW5 123 rfl rfl, tW1 1 (by decide +kernel) rfl, by decide, by decide +kernel⟩
theorem kX7_needThreaded : gCal mX7_needThreaded 0 := ⟨tW4 79 rfl rfl, tW1 1 (by decide +kernel) rfl, by decide, by decide +kernel⟩
theorem jX7_needThreaded : gIn mX7_needThreaded := ⟨tW4 78 (by decide +kernel) rfl, tP (List.mem_of_getElem? (i := 8) (by decide +kernel)) rfl⟩
theorem kX7_neededFor : gCal mX7_neededFor 1 := ⟨tW3 214 rfl rfl, tW1 1 (by decide +kernel) rfl, by decide, by decide +kernel⟩
theorem jX7_neededFor : gIn mX7_neededFor := ⟨tW3 212 (by decide +kernel) rfl, tW3 213 (by decide +kernel) rfl⟩
theorem kX7_needle : gCal mX7_needle 0 := ⟨tW2 59 rfl rfl, tW1 1 (by decide +kernel) rfl, by decide, by decide +kernel⟩
theorem jX7_needle : gIn mX7_needle := ⟨tW2 57 (by decide +kernel) rfl, tW2 58 (by decide +kernel) rfl⟩
theorem kX7_needleBy : gCal mX7_needleBy 0 := ⟨tW5 93 rfl rfl, tW1 1 (by decide +kernel) rfl, by decide, by decide +kernel⟩
theorem jX7_needleBy : gIn mX7_needleBy := ⟨tW5 91 (by decide +kernel) rfl, tW5 92 (by decide +kernel) rfl⟩
theorem kX7_place : gCal mX7_place 2 := ⟨tW4 129 rfl rfl, tW1 1 (by decide +kernel) rfl, by decide, by decide +kernel⟩
theorem jX7_place : gIn mX7_place := ⟨tW4 127 (by decide +kernel) rfl, tW4 128 (by decide +kernel) rfl⟩
theorem kX7_planOf : gCal mX7_planOf 1 := ⟨tW3 70 rfl rfl, tW1 1 (by decide +kernel) rfl, by decide, by decide +kernel⟩
theorem jX7_planOf : gIn mX7_planOf := ⟨tW3 68 (by decide +kernel) rfl, tW3 69 (by decide +kernel) rfl⟩
theorem kX7_restore : gCal mX7_restore 1 := ⟨tW5 131 rfl rfl, tW1 1 (by decide +kernel) rfl, by decide, by decide +kernel⟩
theorem jX7_restore : gIn mX7_restore := ⟨tW5 129 (by decide +kernel) rfl, tW5 130 (by decide +kernel) rfl⟩
theorem kX7_right : gCal mX7_right 0 := ⟨tW2 2 rfl rfl, tW1 1 (by decide +kernel) rfl, by decide, by decide +kernel⟩
theorem jX7_right : gIn mX7_right := ⟨tW2 0 (by decide +kernel) rfl, tW2 1 (by decide +kernel) rfl⟩
theorem kX7_run : gCal mX7_run 1 := ⟨tW4 218 rfl rfl, tW1 1 (by decide +kernel) rfl, by decide, by decide +kernel⟩
theorem jX7_run : gIn mX7_run := ⟨tW4 216 (by decide +kernel) rfl, tW4 217 (by decide +kernel) rfl⟩
theorem kX7_runText : gCal mX7_runText 0 := ⟨tW5 23 rfl rfl, tW1 1 (by decide +kernel) rfl, by decide, by decide +kernel⟩
theorem jX7_runText : gIn mX7_runText := ⟨tW5 21 (by decide +kernel) rfl, tW5 22 (by decide +kernel) rfl⟩
theorem kX7_save : gCal mX7_save 1 := ⟨tW5 120 rfl rfl, tW1 1 (by decide +kernel) rfl, by decide, by decide +kernel⟩
theorem jX7_save : gIn mX7_save := ⟨tW5 118 (by decide +kernel) rfl, tW5 119 (by decide +kernel) rfl⟩
theorem kX7_setHeight : gCal mX7_setHeight 1 := ⟨tW4 122 rfl rfl, tW1 1 (by decide +kernel) rfl, by decide, by decide +kernel⟩
theorem jX7_setHeight : gIn mX7_setHeight := ⟨tW4 120 (by decide +kernel) rfl, tW4 121 (by decide +kernel) rfl⟩
theorem kX7_setPlan : gCal mX7_setPlan 2 := ⟨tW4 20 rfl rfl, tW1 1 (by decide +kernel) rfl, by decide, by decide +kernel⟩
theorem jX7_setPlan : gIn mX7_setPlan := ⟨tW4 18 (by decide +kernel) rfl, tW4 19 (by decide +kernel) rfl⟩
theorem kX7_sew : gCal mX7_sew 1 := ⟨tW4 88 rfl rfl, tW1 1 (by decide +kernel) rfl, by decide, by decide +kernel⟩
theorem jX7_sew : gIn mX7_sew := ⟨tW4 86 (by decide +kernel) rfl, tW4 87 (by decide +kernel) rfl⟩
theorem kX7_shear : gCal mX7_shear 1 := ⟨tW4 184 rfl rfl, tW1 1 (by decide +kernel) rfl, by decide, by decide +kernel⟩
theorem jX7_shear : gIn mX7_shear := ⟨tW4 182 (by decide +kernel) rfl, tW4 183 (by decide +kernel) rfl⟩
theorem kX7_simulate : gCal mX7_simulate 2 := ⟨tW5 107 rfl rfl, tW1 1 (by decide +kernel) rfl, by decide, by decide +kernel⟩
theorem jX7_simulate : gIn mX7_simulate := ⟨tW5 105 (by decide +kernel) rfl, tW5 106 (by decide +kernel) rfl⟩
theorem kX7_simulateTurn : gCal mX7_simulateTurn 1 := ⟨tW5 113 rfl rfl, tW1 1 (by decide +kernel) rfl, by decide, by decide +kernel⟩
theorem jX7_simulateTurn : gIn mX7_simulateTurn := ⟨tW5 112 (by decide +kernel) rfl, tP (List.mem_of_getElem? (i := 18) (by decide +kernel)) rfl⟩
theorem kX7_skipped : gCal mX7_skipped 0 := ⟨tW2 38 rfl rfl, tW1 1 (by decide +kernel) rfl, by decide, by decide +kernel⟩
theorem jX7_skipped : gIn mX7_skipped := ⟨tW2 36 (by decide +kernel) rfl, tW2 37 (by decide +kernel) rfl⟩
theorem kX7_store : gCal mX7_store 1 := ⟨tW4 195 rfl rfl, tW1 1 (by decide +kernel) rfl, by decide, by decide +kernel⟩
theorem jX7_store : gIn mX7_store := ⟨tW4 193 (by decide +kernel) rfl, tW4 194 (by decide +kernel) rfl⟩
theorem kX7_tension : gCal mX7_tension 0 := ⟨tW2 75 rfl rfl, tW1 1 (by decide +kernel) rfl, by decide, by decide +kernel⟩
theorem jX7_tension : gIn mX7_tension := ⟨tW2 73 (by decide +kernel) rfl, tW2 74 (by decide +kernel) rfl⟩
theorem kX7_thread : gCal mX7_thread 1 := ⟨tW4 49 rfl rfl, tW1 1 (by decide +kernel) rfl, by decide, by decide +kernel⟩
theorem jX7_thread : gIn mX7_thread := ⟨tW4 47 (by decide +kernel) rfl, tW4 48 (by decide +kernel) rfl⟩
theorem kX7_threaded : gCal mX7_threaded 0 := ⟨tW2 67 rfl rfl, tW1 1 (by decide +kernel) rfl, by decide, by decide +kernel⟩
theorem jX7_threaded : gIn mX7_threaded := ⟨tW2 65 (by decide +kernel) rfl, tW2 66 (by decide +kernel) rfl⟩
theorem kX7_tryText : gCal mX7_tryText 0 := ⟨tW5 86 rfl rfl, tW1 1 (by decide +kernel) rfl, by decide, by decide +kernel⟩
theorem jX7_tryText : gIn mX7_tryText := ⟨tW5 85 (by decide +kernel) rfl, tP (List.mem_of_getElem? (i := 17) (by decide +kernel)) rfl⟩
theorem kX7_turnLeft : gCal mX7_turnLeft 0 := ⟨tW2 98 rfl rfl, tW1 1 (by decide +kernel) rfl, by decide, by decide +kernel⟩
theorem jX7_turnLeft : gIn mX7_turnLeft := ⟨tW2 96 (by decide +kernel) rfl, tW2 97 (by decide +kernel) rfl⟩
theorem kX7_turnRight : gCal mX7_turnRight 0 := ⟨tW2 140 rfl rfl, tW1 1 (by decide +kernel) rfl, by decide, by decide +kernel⟩
theorem jX7_turnRight : gIn mX7_turnRight := ⟨tW2 138 (by decide +kernel) rfl, tW2 139 (by decide +kernel) rfl⟩
theorem kX7_undo : gCal mX7_undo 0 := ⟨tW5 30 rfl rfl, tW1 1 (by decide +kernel) rfl, by decide, by decide +kernel⟩
theorem jX7_undo : gIn mX7_undo := ⟨tW5 28 (by decide +kernel) rfl, tW5 29 (by decide +kernel) rfl⟩
theorem kX7_unpick : gCal mX7_unpick 1 := ⟨tW4 167 rfl rfl, tW1 1 (by decide +kernel) rfl, by decide, by decide +kernel⟩
theorem jX7_unpick : gIn mX7_unpick := ⟨tW4 165 (by decide +kernel) rfl, tW4 166 (by decide +kernel) rfl⟩
theorem kX7_untilKnot : gCal mX7_untilKnot 1 := ⟨tW3 226 rfl rfl, tW1 1 (by decide +kernel) rfl, by decide, by decide +kernel⟩
theorem jX7_untilKnot : gIn mX7_untilKnot := ⟨tW3 224 (by decide +kernel) rfl, tW3 225 (by decide +kernel) rfl⟩
theorem kX7_wasteOf : gCal mX7_wasteOf 1 := ⟨tW3 203 rfl rfl, tW1 1 (by decide +kernel) rfl, by decide, by decide +kernel⟩
theorem jX7_wasteOf : gIn mX7_wasteOf := ⟨tW3 201 (by decide +kernel) rfl, tW3 202 (by decide +kernel) rfl⟩
theorem kX7_whyNoMending : gCal mX7_whyNoMending 1 := ⟨tW5 42 rfl rfl, tW1 1 (by decide +kernel) rfl, by decide, by decide +kernel⟩
theorem jX7_whyNoMending : gIn mX7_whyNoMending := ⟨tW5 40 (by decide +kernel) rfl, tW5 41 (by decide +kernel) rfl⟩
theorem kX7_whyNoStitch : gCal mX7_whyNoStitch 0 := ⟨tW2 144 rfl rfl, tW1 1 (by decide +kernel) rfl, by decide, by decide +kernel⟩
theorem jX7_whyNoStitch : gIn mX7_whyNoStitch := ⟨tW2 142 (by decide +kernel) rfl, tW2 143 (by decide +kernel) rfl⟩
theorem kX7_wind : gCal mX7_wind 2 := ⟨tW4 137 rfl rfl, tW1 1 (by decide +kernel) rfl, by decide, by decide +kernel⟩
theorem jX7_wind : gIn mX7_wind := ⟨tW4 135 (by decide +kernel) rfl, tW4 136 (by decide +kernel) rfl⟩
theorem kX7_wouldSkip : gCal mX7_wouldSkip 0 := ⟨tW2 86 rfl rfl, tW1 1 (by decide +kernel) rfl, by decide, by decide +kernel⟩
theorem jX7_wouldSkip : gIn mX7_wouldSkip := ⟨tW2 84 (by decide +kernel) rfl, tW2 85 (by decide +kernel) rfl⟩
theorem kX7_wrong : gCal mX7_wrong 0 := ⟨tW2 30 rfl rfl, tW1 1 (by decide +kernel) rfl, by decide, by decide +kernel⟩
theorem jX7_wrong : gIn mX7_wrong := ⟨tW2 28 (by decide +kernel) rfl, tW2 29 (by decide +kernel) rfl⟩
theorem kX7_yarnBy : gCal mX7_yarnBy 1 := ⟨tW5 100 rfl rfl, tW1 1 (by decide +kernel) rfl, by decide, by decide +kernel⟩
theorem jX7_yarnBy : gIn mX7_yarnBy := ⟨tW5 98 (by decide +kernel) rfl, tW5 99 (by decide +kernel) rfl⟩
theorem kX7_yarnForLoop : gCal mX7_yarnForLoop 1 := ⟨tW2 156 rfl rfl, tW1 1 (by decide +kernel) rfl, by decide, by decide +kernel⟩
theorem kX8_append : gCal mX8_append 1 := ⟨tW5 207 rfl rfl, tW1 9 (by decide +kernel) rfl, by decide, by decide +kernel⟩
theorem jX8_append : gIn mX8_append := ⟨tW5 205 (by decide +kernel) rfl, tW5 206 (by decide +kernel) rfl⟩
theorem kX8_areas : gCal mX8_areas 1 := ⟨tW6 75 rfl rfl, tW1 9 (by decide +kernel) rfl, by decide, by decide +kernel⟩
theorem jX8_areas : gIn mX8_areas := ⟨tW6 74 (by decide +kernel) rfl, tP (List.mem_of_getElem? (i := 28) (by decide +kernel)) rfl⟩
theorem kX8_areasByJoining : gCal mX8_areasByJoining 1 := ⟨tW6 83 rfl rfl, tW1 9 (by decide +kernel) rfl, by decide, by decide +kernel⟩
theorem jX8_areasByJoining : gIn mX8_areasByJoining := ⟨tW6 81 (by decide +kernel) rfl, tW6 82 (by decide +kernel) rfl⟩
theorem kX8_areasBySpreading : gCal mX8_areasBySpreading 1 := ⟨tW6 63 rfl rfl, tW1 9 (by decide +kernel) rfl, by decide, by decide +kernel⟩
theorem jX8_areasBySpreading : gIn mX8_areasBySpreading := ⟨tW6 61 (by decide +kernel) rfl, tW6 62 (by decide +kernel) rfl⟩
theorem kX8_canGo : gCal mX8_canGo 0 := ⟨tW6 123 rfl rfl, tW1 9 (by decide +kernel) rfl, by decide, by decide +kernel⟩
theorem jX8_canGo : gIn mX8_canGo := ⟨tW6 121 (by decide +kernel) rfl, tW6 122 (by decide +kernel) rfl⟩
theorem kX8_change : gCal mX8_change 2 := ⟨tW6 185 rfl rfl, tW1 9 (by decide +kernel) rfl, by decide, by decide +kernel⟩
theorem jX8_change : gIn mX8_change := ⟨tW6 184 (by decide +kernel) rfl, tP (List.mem_of_getElem? (i := 30) (by decide +kernel)) rfl⟩
theorem kX8_clearText : gCal mX8_clearText 0 := ⟨tW5 219 rfl rfl, tW1 9 (by decide +kernel) rfl, by decide, by decide +kernel⟩
theorem jX8_clearText : gIn mX8_clearText := ⟨tW5 217 (by decide +kernel) rfl, tW5 218 (by decide +kernel) rfl⟩
theorem kX8_cone : gCal mX8_cone 3 := ⟨tW6 134 rfl rfl, tW1 9 (by decide +kernel) rfl, by decide, by decide +kernel⟩
theorem kX8_coneOf : gCal mX8_coneOf 1 := ⟨tW6 131 rfl rfl, tW1 9 (by decide +kernel) rfl, by decide, by decide +kernel⟩
theorem jX8_coneOf : gIn mX8_coneOf := ⟨tW6 129 (by decide +kernel) rfl, tW6 130 (by decide +kernel) rfl⟩
theorem kX8_copy : gCal mX8_copy 2 := ⟨tW7 98 rfl rfl, tW1 9 (by decide +kernel) rfl, by decide, by decide +kernel⟩
theorem kX8_couldSew : gCal mX8_couldSew 0 := ⟨tW7 95 rfl rfl, tW1 9 (by decide +kernel) rfl, by decide, by decide +kernel⟩
theorem jX8_couldSew : gIn mX8_couldSew := ⟨tW7 93 (by decide +kernel) rfl, tW7 94 (by decide +kernel) rfl⟩
theorem kX8_cut : gCal mX8_cut 0 := ⟨tW6 210 rfl rfl, tW1 9 (by decide +kernel) rfl, by decide, by decide +kernel⟩
theorem jX8_cut : gIn mX8_cut := ⟨tW6 208 (by decide +kernel) rfl, tW6 209 (by decide +kernel) rfl⟩
theorem kX8_density : gCal mX8_density 0 := ⟨tW6 87 rfl rfl, tW1 9 (by decide +kernel) rfl, by decide, by decide +kernel⟩
theorem jX8_density : gIn mX8_density := ⟨tW6 85 (by decide +kernel) rfl, tW6 86 (by decide +kernel) rfl⟩
theorem kX8_digit : gCal mX8_digit 2 := ⟨tW6 9 rfl rfl, tW1 9 (by decide +kernel) rfl, by decide, by decide +kernel⟩
theorem jX8_digit : gIn mX8_digit := ⟨tW6 8 (by decide +kernel) rfl, tP (List.mem_of_getElem? (i := 25) (by decide +kernel)) rfl⟩
theorem kX8_draw : gCal mX8_draw 4 := ⟨tW6 206 rfl rfl, tW1 9 (by decide +kernel) rfl, by decide, by decide +kernel⟩
theorem kX8_drawn : gCal mX8_drawn 2 := ⟨tW6 141 rfl rfl, tW1 9 (by decide +kernel) rfl, by decide, by decide +kernel⟩
theorem kX8_drawnByCone : gCal mX8_drawnByCone 1 := ⟨tW6 138 rfl rfl, tW1 9 (by decide +kernel) rfl, by decide, by decide +kernel⟩
theorem jX8_drawnByCone : gIn mX8_drawnByCone := ⟨tW6 136 (by decide +kernel) rfl, tW6 137 (by decide +kernel) rfl⟩
theorem kX8_drawnByRug : gCal mX8_drawnByRug 1 := ⟨tW6 145 rfl rfl, tW1 9 (by decide +kernel) rfl, by decide, by decide +kernel⟩
theorem jX8_drawnByRug : gIn mX8_drawnByRug := ⟨tW6 143 (by decide +kernel) rfl, tW6 144 (by decide +kernel) rfl⟩
theorem kX8_ease : gCal mX8_ease 0 := ⟨tW7 9 rfl rfl, tW1 9 (by decide +kernel) rfl, by decide, by decide +kernel⟩
theorem jX8_ease : gIn mX8_ease := ⟨tW7 7 (by decide +kernel) rfl, tW7 8 (by decide +kernel) rfl⟩
theorem kX8_errorPosition : gCal mX8_errorPosition 0 := ⟨tW5 223 rfl rfl, tW1 9 (by decide +kernel) rfl, by decide, by decide +kernel⟩
theorem jX8_errorPosition : gIn mX8_errorPosition := ⟨tW5 221 (by decide +kernel) rfl, tW5 222 (by decide +kernel) rfl⟩
theorem kX8_fails : gCal mX8_fails 1 := ⟨tW7 75 rfl rfl, tW1 9 (by decide +kernel) rfl, by decide, by decide +kernel⟩
theorem jX8_fails : gIn mX8_fails := ⟨tW7 74 (by decide +kernel) rfl, tP (List.mem_of_getElem? (i := 36) (by decide +kernel)) rfl⟩
theorem kX8_fillPlan : gCal mX8_fillPlan 3 := ⟨tW6 193 rfl rfl, tW1 9 (by decide +kernel) rfl, by decide, by decide +kernel⟩
theorem jX8_fillPlan : gIn mX8_fillPlan := ⟨tW6 191 (by decide +kernel) rfl, tW6 192 (by decide +kernel) rfl⟩
theorem kX8_goCut : gCal mX8_goCut 1 := ⟨tW6 203 rfl rfl, tW1 9 (by decide +kernel) rfl, by decide, by decide +kernel⟩
theorem kX8_goEase : gCal mX8_goEase 1 := ⟨tW7 12 rfl rfl, tW1 9 (by decide +kernel) rfl, by decide, by decide +kernel⟩
theorem kX8_goJump : gCal mX8_goJump 2 := ⟨tW6 234 rfl rfl, tW1 9 (by decide +kernel) rfl, by decide, by decide +kernel⟩
theorem kX8_goRun : gCal mX8_goRun 3 := ⟨tW7 59 rfl rfl, tW1 9 (by decide +kernel) rfl, by decide, by decide +kernel⟩
theorem jX8_goRun : gIn mX8_goRun := ⟨tW7 58 (by decide +kernel) rfl, tP (List.mem_of_getElem? (i := 32) (by decide +kernel)) rfl⟩
theorem kX8_goSew : gCal mX8_goSew 2 := ⟨tW6 221 rfl rfl, tW1 9 (by decide +kernel) rfl, by decide, by decide +kernel⟩
theorem kX8_goShear : gCal mX8_goShear 2 := ⟨tW7 47 rfl rfl, tW1 9 (by decide +kernel) rfl, by decide, by decide +kernel⟩
theorem kX8_goThread : gCal mX8_goThread 2 := ⟨tW6 200 rfl rfl, tW1 9 (by decide +kernel) rfl, by decide, by decide +kernel⟩
theorem kX8_goTurn : gCal mX8_goTurn 2 := ⟨tW7 1 rfl rfl, tW1 9 (by decide +kernel) rfl, by decide, by decide +kernel⟩
theorem kX8_goUnpick : gCal mX8_goUnpick 2 := ⟨tW7 40 rfl rfl, tW1 9 (by decide +kernel) rfl, by decide, by decide +kernel⟩
theorem kX8_hasLoop : gCal mX8_hasLoop 2 := ⟨tW6 28 rfl rfl, tW1 9 (by decide +kernel) rfl, by decide, by decide +kernel⟩
theorem kX8_heading : gCal mX8_heading 0 := ⟨tW6 107 rfl rfl, tW1 9 (by decide +kernel) rfl, by decide, by decide +kernel⟩
theorem jX8_heading : gIn mX8_heading := ⟨tW6 105 (by decide +kernel) rfl, tW6 106 (by decide +kernel) rfl⟩
theorem kX8_height : gCal mX8_height 0 := ⟨tW6 115 rfl rfl, tW1 9 (by decide +kernel) rfl, by decide, by decide +kernel⟩
theorem jX8_height : gIn mX8_height := ⟨tW6 113 (by decide +kernel) rfl, tW6 114 (by decide +kernel) rfl⟩
theorem kX8_heightOf : gCal mX8_heightOf 1 := ⟨tW6 33 rfl rfl, tW1 9 (by decide +kernel) rfl, by decide, by decide +kernel⟩
theorem jX8_heightOf : gIn mX8_heightOf := ⟨tW6 31 (by decide +kernel) rfl, tW6 32 (by decide +kernel) rfl⟩
theorem kX8_here : gCal mX8_here 0 := ⟨tW5 235 rfl rfl, tW1 9 (by decide +kernel) rfl, by decide, by decide +kernel⟩
theorem jX8_here : gIn mX8_here := ⟨tW5 234 (by decide +kernel) rfl, tP (List.mem_of_getElem? (i := 22) (by decide +kernel)) rfl⟩
theorem kX8_in : gCal mX8_in 3 := ⟨tW5 211 rfl rfl, tW1 9 (by decide +kernel) rfl, by decide, by decide +kernel⟩
theorem kX8_init : gCal mX8_init 0 := ⟨tW5 137 rfl rfl, tW1 9 (by decide +kernel) rfl, by decide, by decide +kernel⟩
theorem kX8_isCell : gCal mX8_isCell 1 := ⟨tW6 20 rfl rfl, tW1 9 (by decide +kernel) rfl, by decide, by decide +kernel⟩
theorem kX8_isColour : gCal mX8_isColour 1 := ⟨tW6 70 rfl rfl, tW1 9 (by decide +kernel) rfl, by decide, by decide +kernel⟩
theorem kX8_isMissing : gCal mX8_isMissing 2 := ⟨tW6 48 rfl rfl, tW1 9 (by decide +kernel) rfl, by decide, by decide +kernel⟩
theorem kX8_isMotif : gCal mX8_isMotif 1 := ⟨tW6 171 rfl rfl, tW1 9 (by decide +kernel) rfl, by decide, by decide +kernel⟩
theorem kX8_isSkipped : gCal mX8_isSkipped 1 := ⟨tW6 37 rfl rfl, tW1 9 (by decide +kernel) rfl, by decide, by decide +kernel⟩
theorem jX8_isSkipped : gIn mX8_isSkipped := ⟨tW6 35 (by decide +kernel) rfl, tW6 36 (by decide +kernel) rfl⟩
theorem kX8_jump : gCal mX8_jump 1 := ⟨tW6 231 rfl rfl, tW1 9 (by decide +kernel) rfl, by decide, by decide +kernel⟩
theorem jX8_jump : gIn mX8_jump := ⟨tW6 229 (by decide +kernel) rfl, tW6 230 (by decide +kernel) rfl⟩
theorem kX8_knots : gCal mX8_knots 0 := ⟨tW6 164 rfl rfl, tW1 9 (by decide +kernel) rfl, by decide, by decide +kernel⟩
theorem jX8_knots : gIn mX8_knots := ⟨tW6 162 (by decide +kernel) rfl, tW6 163 (by decide +kernel) rfl⟩
theorem kX8_loopOf : gCal mX8_loopOf 1 := ⟨tW6 25 rfl rfl, tW1 9 (by decide +kernel) rfl, by decide, by decide +kernel⟩
theorem jX8_loopOf : gIn mX8_loopOf := ⟨tW6 23 (by decide +kernel) rfl, tW6 24 (by decide +kernel) rfl⟩
theorem kX8_loops : gCal mX8_loops 1 := ⟨tW6 90 rfl rfl, tW1 9 (by decide +kernel) rfl, by decide, by decide +kernel⟩
theorem kX8_loopsBy : gCal mX8_loopsBy 0 := ⟨tW7 114 rfl rfl, tW1 9 (by decide +kernel) rfl, by decide, by decide +kernel⟩
theorem jX8_loopsBy : gIn mX8_loopsBy := ⟨tW7 112 (by decide +kernel) rfl, tW7 113 (by decide +kernel) rfl⟩
theorem kX8_meanHeight : gCal mX8_meanHeight 0 := ⟨tW6 95 rfl rfl, tW1 9 (by decide +kernel) rfl, by decide, by decide +kernel⟩
theorem jX8_meanHeight : gIn mX8_meanHeight := ⟨tW6 93 (by decide +kernel) rfl, tW6 94 (by decide +kernel) rfl⟩
theorem kX8_mend : gCal mX8_mend 1 := ⟨tW7 30 rfl rfl, tW1 9 (by decide +kernel) rfl, by decide, by decide +kernel⟩
theorem jX8_mend : gIn mX8_mend := ⟨tW7 28 (by decide +kernel) rfl, tW7 29 (by decide +kernel) rfl⟩
theorem kX8_missing : gCal mX8_missing 0 := ⟨tW6 45 rfl rfl, tW1 9 (by decide +kernel) rfl, by decide, by decide +kernel⟩
theorem jX8_missing : gIn mX8_missing := ⟨tW6 43 (by decide +kernel) rfl, tW6 44 (by decide +kernel) rfl⟩
theorem kX8_motifLength : gCal mX8_motifLength 1 := ⟨tW6 168 rfl rfl, tW1 9 (by decide +kernel) rfl, by decide, by decide +kernel⟩
theorem jX8_motifLength : gIn mX8_motifLength := ⟨tW6 166 (by decide +kernel) rfl, tW6 167 (by decide +kernel) rfl⟩
theorem kX8_motifSign : gCal mX8_motifSign 2 := ⟨tW6 176 rfl rfl, tW1 9 (by decide +kernel) rfl, by decide, by decide +kernel⟩
theorem jX8_motifSign : gIn mX8_motifSign := ⟨tW6 174 (by decide +kernel) rfl, tW6 175 (by decide +kernel) rfl⟩
theorem kX8_nearest : gCal mX8_nearest 1 := ⟨tW7 106 rfl rfl, tW1 9 (by decide +kernel) rfl, by decide, by decide +kernel⟩
theorem jX8_nearest : gIn mX8_nearest := ⟨tW7 105 (by decide +kernel) rfl, tP (List.mem_of_getElem? (i := 37) (by decide +kernel)) rfl⟩
theorem kX8_nearestByCells : gCal mX8_nearestByCells 1 := ⟨tW7 110 rfl rfl, tW1 9 (by decide +kernel) rfl, by decide, by decide +kernel⟩
theorem jX8_nearestByCells : gIn mX8_nearestByCells := ⟨tW7 108 (by decide +kernel) rfl, tW7 109 (by decide +kernel) rfl⟩
theorem kX8_nearestByRings : gCal mX8_nearestByRings 1 := ⟨tW7 102 rfl rfl, tW1 9 (by decide +kernel) rfl, by decide, by decide +kernel⟩
theorem jX8_nearestByRings : gIn mX8_nearestByRings := ⟨tW7 100 (by decide +kernel) rfl, tW7 101 (by decide +kernel) rfl⟩
theorem kX8_neededFor : gCal mX8_neededFor 1 := ⟨tW6 153 rfl rfl, tW1 9 (by decide +kernel) rfl, by decide, by decide +kernel⟩
theorem jX8_neededFor : gIn mX8_neededFor := ⟨tW6 151 (by decide +kernel) rfl, tW6 152 (by decide +kernel) rfl⟩
theorem kX8_needle : gCal mX8_needle 0 := ⟨tW6 99 rfl rfl, tW1 9 (by decide +kernel) rfl, by decide, by decide +kernel⟩
theorem jX8_needle : gIn mX8_needle := ⟨tW6 97 (by decide +kernel) rfl, tW6 98 (by decide +kernel) rfl⟩
theorem kX8_needleBy : gCal mX8_needleBy 0 := ⟨tW7 122 rfl rfl, tW1 9 (by decide +kernel) rfl, by decide, by decide +kernel⟩
theorem jX8_needleBy : gIn mX8_needleBy := ⟨tW7 120 (by decide +kernel) rfl, tW7 121 (by decide +kernel) rfl⟩
theorem kX8_next : gCal mX8_next 2 := ⟨tW6 78 rfl rfl, tW1 9 (by decide +kernel) rfl, by decide, by decide +kernel⟩
theorem kX8_noCell : gCal mX8_noCell 1 := ⟨tW6 17 rfl rfl, tW1 9 (by decide +kernel) rfl, by decide, by decide +kernel⟩
theorem jX8_noCell : gIn mX8_noCell := ⟨tW6 16 (by decide +kernel) rfl, tP (List.mem_of_getElem? (i := 26) (by decide +kernel)) rfl⟩
theorem kX8_noColour : gCal mX8_noColour 1 := ⟨tW6 67 rfl rfl, tW1 9 (by decide +kernel) rfl, by decide, by decide +kernel⟩
theorem jX8_noColour : gIn mX8_noColour := ⟨tW6 66 (by decide +kernel) rfl, tP (List.mem_of_getElem? (i := 27) (by decide +kernel)) rfl⟩
theorem kX8_noMending : gCal mX8_noMending 2 := ⟨tW7 33 rfl rfl, tW1 9 (by decide +kernel) rfl, by decide, by decide +kernel⟩
theorem kX8_noStitch : gCal mX8_noStitch 1 := ⟨tW6 218 rfl rfl, tW1 9 (by decide +kernel) rfl, by decide, by decide +kernel⟩
theorem kX8_order : gCal mX8_order 1 := ⟨tW7 67 rfl rfl, tW1 9 (by decide +kernel) rfl, by decide, by decide +kernel⟩
theorem jX8_order : gIn mX8_order := ⟨tW7 66 (by decide +kernel) rfl, tP (List.mem_of_getElem? (i := 34) (by decide +kernel)) rfl⟩
theorem kX8_place : gCal mX8_place 2 := ⟨tW7 21 rfl rfl, tW1 9 (by decide +kernel) rfl, by decide, by decide +kernel⟩
theorem jX8_place : gIn mX8_place := ⟨tW7 19 (by decide +kernel) rfl, tW7 20 (by decide +kernel) rfl⟩
theorem kX8_planOf : gCal mX8_planOf 1 := ⟨tW6 13 rfl rfl, tW1 9 (by decide +kernel) rfl, by decide, by decide +kernel⟩
theorem jX8_planOf : gIn mX8_planOf := ⟨tW6 11 (by decide +kernel) rfl, tW6 12 (by decide +kernel) rfl⟩
theorem kX8_pull : gCal mX8_pull 5 := ⟨tW6 227 rfl rfl, tW1 9 (by decide +kernel) rfl, by decide, by decide +kernel⟩
theorem kX8_push : gCal mX8_push 4 := ⟨tW7 63 rfl rfl, tW1 9 (by decide +kernel) rfl, by decide, by decide +kernel⟩
theorem jX8_push : gIn mX8_push := ⟨tW7 62 (by decide +kernel) rfl, tP (List.mem_of_getElem? (i := 33) (by decide +kernel)) rfl⟩
theorem kX8_readAll : gCal mX8_readAll 0 := ⟨tW5 227 rfl rfl, tW1 9 (by decide +kernel) rfl, by decide, by decide +kernel⟩
theorem jX8_readAll : gIn mX8_readAll := ⟨tW5 226 (by decide +kernel) rfl, tP (List.mem_of_getElem? (i := 20) (by decide +kernel)) rfl⟩
theorem kX8_readOrder : gCal mX8_readOrder 0 := ⟨tW5 231 rfl rfl, tW1 9 (by decide +kernel) rfl, by decide, by decide +kernel⟩
theorem jX8_readOrder : gIn mX8_readOrder := ⟨tW5 230 (by decide +kernel) rfl, tP (List.mem_of_getElem? (i := 21) (by decide +kernel)) rfl⟩
theorem kX8_readPlain : gCal mX8_readPlain 0 := ⟨tW6 1 rfl rfl, tW1 9 (by decide +kernel) rfl, by decide, by decide +kernel⟩
theorem jX8_readPlain : gIn mX8_readPlain := ⟨tW6 0 (by decide +kernel) rfl, tP (List.mem_of_getElem? (i := 23) (by decide +kernel)) rfl⟩
theorem kX8_refused : gCal mX8_refused 1 := ⟨tW5 215 rfl rfl, tW1 9 (by decide +kernel) rfl, by decide, by decide +kernel⟩
theorem jX8_refused : gIn mX8_refused := ⟨tW5 214 (by decide +kernel) rfl, tP (List.mem_of_getElem? (i := 19) (by decide +kernel)) rfl⟩
theorem kX8_remember : gCal mX8_remember 0 := ⟨tW6 189 rfl rfl, tW1 9 (by decide +kernel) rfl, by decide, by decide +kernel⟩
theorem jX8_remember : gIn mX8_remember := ⟨tW6 188 (by decide +kernel) rfl, tP (List.mem_of_getElem? (i := 31) (by decide +kernel)) rfl⟩
theorem kX8_restore : gCal mX8_restore 1 := ⟨tW7 145 rfl rfl, tW1 9 (by decide +kernel) rfl, by decide, by decide +kernel⟩
theorem jX8_restore : gIn mX8_restore := ⟨tW7 143 (by decide +kernel) rfl, tW7 144 (by decide +kernel) rfl⟩
theorem kX8_right : gCal mX8_right 0 := ⟨tW6 41 rfl rfl, tW1 9 (by decide +kernel) rfl, by decide, by decide +kernel⟩
theorem jX8_right : gIn mX8_right := ⟨tW6 39 (by decide +kernel) rfl, tW6 40 (by decide +kernel) rfl⟩
theorem kX8_run : gCal mX8_run 1 := ⟨tW7 55 rfl rfl, tW1 9 (by decide +kernel) rfl, by decide, by decide +kernel⟩
theorem jX8_run : gIn mX8_run := ⟨tW7 53 (by decide +kernel) rfl, tW7 54 (by decide +kernel) rfl⟩
theorem kX8_runText : gCal mX8_runText 0 := ⟨tW7 79 rfl rfl, tW1 9 (by decide +kernel) rfl, by decide, by decide +kernel⟩
theorem jX8_runText : gIn mX8_runText := ⟨tW7 77 (by decide +kernel) rfl, tW7 78 (by decide +kernel) rfl⟩
theorem kX8_save : gCal mX8_save 1 := ⟨tW7 141 rfl rfl, tW1 9 (by decide +kernel) rfl, by decide, by decide +kernel⟩
theorem jX8_save : gIn mX8_save := ⟨tW7 139 (by decide +kernel) rfl, tW7 140 (by decide +kernel) rfl⟩
theorem kX8_setHeight : gCal mX8_setHeight 1 := ⟨tW7 16 rfl rfl, tW1 9 (by decide +kernel) rfl, by decide, by decide +kernel⟩
theorem jX8_setHeight : gIn mX8_setHeight := ⟨tW7 14 (by decide +kernel) rfl, tW7 15 (by decide +kernel) rfl⟩
theorem kX8_setPlan : gCal mX8_setPlan 2 := ⟨tW6 180 rfl rfl, tW1 9 (by decide +kernel) rfl, by decide, by decide +kernel⟩
theorem jX8_setPlan : gIn mX8_setPlan := ⟨tW6 178 (by decide +kernel) rfl, tW6 179 (by decide +kernel) rfl⟩
theorem kX8_sew : gCal mX8_sew 1 := ⟨tW6 214 rfl rfl, tW1 9 (by decide +kernel) rfl, by decide, by decide +kernel⟩
theorem jX8_sew : gIn mX8_sew := ⟨tW6 212 (by decide +kernel) rfl, tW6 213 (by decide +kernel) rfl⟩
theorem kX8_shear : gCal mX8_shear 1 := ⟨tW7 44 rfl rfl, tW1 9 (by decide +kernel) rfl, by decide, by decide +kernel⟩
theorem jX8_shear : gIn mX8_shear := ⟨tW7 42 (by decide +kernel) rfl, tW7 43 (by decide +kernel) rfl⟩
theorem kX8_sign : gCal mX8_sign 3 := ⟨tW7 71 rfl rfl, tW1 9 (by decide +kernel) rfl, by decide, by decide +kernel⟩
theorem jX8_sign : gIn mX8_sign := ⟨tW7 70 (by decide +kernel) rfl, tP (List.mem_of_getElem? (i := 35) (by decide +kernel)) rfl⟩
theorem kX8_simulate : gCal mX8_simulate 2 := ⟨tW7 130 rfl rfl, tW1 9 (by decide +kernel) rfl, by decide, by decide +kernel⟩
theorem jX8_simulate : gIn mX8_simulate := ⟨tW7 128 (by decide +kernel) rfl, tW7 129 (by decide +kernel) rfl⟩
theorem kX8_skipped : gCal mX8_skipped 0 := ⟨tW6 56 rfl rfl, tW1 9 (by decide +kernel) rfl, by decide, by decide +kernel⟩
theorem jX8_skipped : gIn mX8_skipped := ⟨tW6 54 (by decide +kernel) rfl, tW6 55 (by decide +kernel) rfl⟩
theorem kX8_skippedIn : gCal mX8_skippedIn 1 := ⟨tW6 59 rfl rfl, tW1 9 (by decide +kernel) rfl, by decide, by decide +kernel⟩
theorem kX8_stir : gCal mX8_stir 1 := ⟨tW7 137 rfl rfl, tW1 9 (by decide +kernel) rfl, by decide, by decide +kernel⟩
theorem jX8_stir : gIn mX8_stir := ⟨tW7 136 (by decide +kernel) rfl, tP (List.mem_of_getElem? (i := 39) (by decide +kernel)) rfl⟩
theorem kX8_stitch : gCal mX8_stitch 1 := ⟨tW6 224 rfl rfl, tW1 9 (by decide +kernel) rfl, by decide, by decide +kernel⟩
theorem kX8_store : gCal mX8_store 1 := ⟨tW7 51 rfl rfl, tW1 9 (by decide +kernel) rfl, by decide, by decide +kernel⟩
theorem jX8_store : gIn mX8_store := ⟨tW7 49 (by decide +kernel) rfl, tW7 50 (by decide +kernel) rfl⟩
theorem kX8_take : gCal mX8_take 1 := ⟨tW6 5 rfl rfl, tW1 9 (by decide +kernel) rfl, by decide, by decide +kernel⟩
theorem jX8_take : gIn mX8_take := ⟨tW6 4 (by decide +kernel) rfl, tP (List.mem_of_getElem? (i := 24) (by decide +kernel)) rfl⟩
theorem kX8_tell : gCal mX8_tell 1 := ⟨tW6 103 rfl rfl, tW1 9 (by decide +kernel) rfl, by decide, by decide +kernel⟩
theorem jX8_tell : gIn mX8_tell := ⟨tW6 102 (by decide +kernel) rfl, tP (List.mem_of_getElem? (i := 29) (by decide +kernel)) rfl⟩
theorem kX8_tension : gCal mX8_tension 0 := ⟨tW6 119 rfl rfl, tW1 9 (by decide +kernel) rfl, by decide, by decide +kernel⟩
theorem jX8_tension : gIn mX8_tension := ⟨tW6 117 (by decide +kernel) rfl, tW6 118 (by decide +kernel) rfl⟩
theorem kX8_thread : gCal mX8_thread 1 := ⟨tW6 197 rfl rfl, tW1 9 (by decide +kernel) rfl, by decide, by decide +kernel⟩
theorem jX8_thread : gIn mX8_thread := ⟨tW6 195 (by decide +kernel) rfl, tW6 196 (by decide +kernel) rfl⟩
theorem kX8_threaded : gCal mX8_threaded 0 := ⟨tW6 111 rfl rfl, tW1 9 (by decide +kernel) rfl, by decide, by decide +kernel⟩
theorem jX8_threaded : gIn mX8_threaded := ⟨tW6 109 (by decide +kernel) rfl, tW6 110 (by decide +kernel) rfl⟩
theorem kX8_thrown : gCal mX8_thrown 0 := ⟨tW5 203 rfl rfl, tW1 9 (by decide +kernel) rfl, by decide, by decide +kernel⟩
theorem jX8_thrown : gIn mX8_thrown := ⟨tW5 201 (by decide +kernel) rfl, tW5 202 (by decide +kernel) rfl⟩
theorem kX8_tried : gCal mX8_tried 0 := ⟨tW7 118 rfl rfl, tW1 9 (by decide +kernel) rfl, by decide, by decide +kernel⟩
theorem jX8_tried : gIn mX8_tried := ⟨tW7 117 (by decide +kernel) rfl, tP (List.mem_of_getElem? (i := 38) (by decide +kernel)) rfl⟩
theorem kX8_turnLeft : gCal mX8_turnLeft 0 := ⟨tW6 238 rfl rfl, tW1 9 (by decide +kernel) rfl, by decide, by decide +kernel⟩
theorem jX8_turnLeft : gIn mX8_turnLeft := ⟨tW6 236 (by decide +kernel) rfl, tW6 237 (by decide +kernel) rfl⟩
theorem kX8_turnRight : gCal mX8_turnRight 0 := ⟨tW7 5 rfl rfl, tW1 9 (by decide +kernel) rfl, by decide, by decide +kernel⟩
theorem jX8_turnRight : gIn mX8_turnRight := ⟨tW7 3 (by decide +kernel) rfl, tW7 4 (by decide +kernel) rfl⟩
theorem kX8_undo : gCal mX8_undo 0 := ⟨tW7 83 rfl rfl, tW1 9 (by decide +kernel) rfl, by decide, by decide +kernel⟩
theorem jX8_undo : gIn mX8_undo := ⟨tW7 81 (by decide +kernel) rfl, tW7 82 (by decide +kernel) rfl⟩
theorem kX8_unpick : gCal mX8_unpick 1 := ⟨tW7 37 rfl rfl, tW1 9 (by decide +kernel) rfl, by decide, by decide +kernel⟩
theorem jX8_unpick : gIn mX8_unpick := ⟨tW7 35 (by decide +kernel) rfl, tW7 36 (by decide +kernel) rfl⟩
theorem kX8_untilKnot : gCal mX8_untilKnot 1 := ⟨tW6 160 rfl rfl, tW1 9 (by decide +kernel) rfl, by decide, by decide +kernel⟩
theorem jX8_untilKnot : gIn mX8_untilKnot := ⟨tW6 158 (by decide +kernel) rfl, tW6 159 (by decide +kernel) rfl⟩
theorem kX8_wasteOf : gCal mX8_wasteOf 1 := ⟨tW6 149 rfl rfl, tW1 9 (by decide +kernel) rfl, by decide, by decide +kernel⟩
theorem jX8_wasteOf : gIn mX8_wasteOf := ⟨tW6 147 (by decide +kernel) rfl, tW6 148 (by decide +kernel) rfl⟩
theorem kX8_whyNoMending : gCal mX8_whyNoMending 1 := ⟨tW7 91 rfl rfl, tW1 9 (by decide +kernel) rfl, by decide, by decide +kernel⟩
theorem jX8_whyNoMending : gIn mX8_whyNoMending := ⟨tW7 89 (by decide +kernel) rfl, tW7 90 (by decide +kernel) rfl⟩
theorem kX8_whyNoStitch : gCal mX8_whyNoStitch 0 := ⟨tW7 87 rfl rfl, tW1 9 (by decide +kernel) rfl, by decide, by decide +kernel⟩
theorem jX8_whyNoStitch : gIn mX8_whyNoStitch := ⟨tW7 85 (by decide +kernel) rfl, tW7 86 (by decide +kernel) rfl⟩
theorem kX8_wind : gCal mX8_wind 2 := ⟨tW7 25 rfl rfl, tW1 9 (by decide +kernel) rfl, by decide, by decide +kernel⟩
theorem jX8_wind : gIn mX8_wind := ⟨tW7 23 (by decide +kernel) rfl, tW7 24 (by decide +kernel) rfl⟩
theorem kX8_wouldSkip : gCal mX8_wouldSkip 0 := ⟨tW6 127 rfl rfl, tW1 9 (by decide +kernel) rfl, by decide, by decide +kernel⟩
theorem jX8_wouldSkip : gIn mX8_wouldSkip := ⟨tW6 125 (by decide +kernel) rfl, tW6 126 (by decide +kernel) rfl⟩
theorem kX8_wrong : gCal mX8_wrong 0 := ⟨tW6 52 rfl rfl, tW1 9 (by decide +kernel) rfl, by decide, by decide +kernel⟩
theorem jX8_wrong : gIn mX8_wrong := ⟨tW6 50 (by decide +kernel) rfl, tW6 51 (by decide +kernel) rfl⟩
theorem kX8_yarn : gCal mX8_yarn 1 := ⟨tW6 156 rfl rfl, tW1 9 (by decide +kernel) rfl, by decide, by decide +kernel⟩
theorem kX8_yarnBy : gCal mX8_yarnBy 1 := ⟨tW7 126 rfl rfl, tW1 9 (by decide +kernel) rfl, by decide, by decide +kernel⟩
theorem jX8_yarnBy : gIn mX8_yarnBy := ⟨tW7 124 (by decide +kernel) rfl, tW7 125 (by decide +kernel) rfl⟩
theorem qX7_9 {m : GM} (h : (gy m).cls = RX7) : Cond.classLink (gy m).cls 9 "RugPunch$Rug" ∈ gW := by rw [h]; exact tW1 26 (by decide +kernel) rfl
theorem qX2_9 {m : GM} (h : (gy m).cls = RX2) : Cond.classLink (gy m).cls 9 "RugPunch$Rug" ∈ gW := by rw [h]; exact tW1 133 (by decide +kernel) rfl
theorem qX3_11 {m : GM} (h : (gy m).cls = RX3) : Cond.classLink (gy m).cls 11 "RugPunch$Script" ∈ gW := by rw [h]; exact tW1 153 (by decide +kernel) rfl
theorem qX4_25 {m : GM} (h : (gy m).cls = RX4) : Cond.classLink (gy m).cls 25 "RugPunch$Script" ∈ gW := by rw [h]; exact tW1 71 (by decide +kernel) rfl
theorem oX7_3 {m : GM} (h : (gy m).cls = RX7) : Cond.methodLink (gy m).cls 3 Lib.objectInit ∈ gW := by rw [h]; exact tW1 23 (by decide +kernel) rfl
theorem iX7_11 {m : GM} (h : (gy m).cls = RX7) : gIni m mX4_init 11 0 := ⟨kX4_init, rfl, rfl, rfl, tW1 29 (by decide +kernel) rfl, Or.inl (by rw [h]; exact tW1 28 (by decide +kernel) rfl)⟩
theorem iX7_25 {m : GM} (h : (gy m).cls = RX7) : gIni m mX2_init 25 0 := ⟨kX2_init, rfl, rfl, rfl, tW1 130 (by decide +kernel) rfl, Or.inr ⟨"RugPunch", by rw [h]; exact tN1 129 (by decide +kernel) rfl⟩⟩
theorem iX7_32 {m : GM} (h : (gy m).cls = RX7) : gIni m mX5_init 32 0 := ⟨kX5_init, rfl, rfl, rfl, tW1 75 (by decide +kernel) rfl, Or.inr ⟨"RugPunch", by rw [h]; exact tN1 146 (by decide +kernel) rfl⟩⟩
theorem iX7_39 {m : GM} (h : (gy m).cls = RX7) : gIni m mX3_init 39 0 := ⟨kX3_init, rfl, rfl, rfl, tW1 150 (by decide +kernel) rfl, Or.inr ⟨"RugPunch", by rw [h]; exact tN1 149 (by decide +kernel) rfl⟩⟩
theorem iX7_46 {m : GM} (h : (gy m).cls = RX7) : gIni m mX0_init 46 0 := ⟨kX0_init, rfl, rfl, rfl, tW1 179 (by decide +kernel) rfl, Or.inr ⟨"RugPunch", by rw [h]; exact tN1 178 (by decide +kernel) rfl⟩⟩
theorem oX0_3 {m : GM} (h : (gy m).cls = RX0) : Cond.methodLink (gy m).cls 3 Lib.objectInit ∈ gW := by rw [h]; exact tW1 181 (by decide +kernel) rfl
theorem oX1_3 {m : GM} (h : (gy m).cls = RX1) : Cond.methodLink (gy m).cls 3 Lib.objectInit ∈ gW := by rw [h]; exact tW1 37 (by decide +kernel) rfl
theorem oX2_1 {m : GM} (h : (gy m).cls = RX2) : Cond.methodLink (gy m).cls 1 Lib.objectInit ∈ gW := by rw [h]; exact tW1 132 (by decide +kernel) rfl
theorem iX2_28 {m : GM} (h : (gy m).cls = RX2) : gIni m mX4_init 28 0 := ⟨kX4_init, rfl, rfl, rfl, tW1 29 (by decide +kernel) rfl, Or.inl (by rw [h]; exact tW2 106 (by decide +kernel) rfl)⟩
theorem oX3_3 {m : GM} (h : (gy m).cls = RX3) : Cond.methodLink (gy m).cls 3 Lib.objectInit ∈ gW := by rw [h]; exact tW1 152 (by decide +kernel) rfl
theorem oX4_3 {m : GM} (h : (gy m).cls = RX4) : Cond.methodLink (gy m).cls 3 Lib.objectInit ∈ gW := by rw [h]; exact tW1 31 (by decide +kernel) rfl
theorem iX4_11 {m : GM} (h : (gy m).cls = RX4) : gIni m mX1_init 11 0 := ⟨kX1_init, rfl, rfl, rfl, tW1 35 (by decide +kernel) rfl, Or.inl (by rw [h]; exact tW1 34 (by decide +kernel) rfl)⟩
theorem iX4_20 {m : GM} (h : (gy m).cls = RX4) : gIni m mX6_init 20 0 := ⟨kX6_init, rfl, rfl, rfl, tW1 52 (by decide +kernel) rfl, Or.inl (by rw [h]; exact tW1 51 (by decide +kernel) rfl)⟩
theorem iX4_38 {m : GM} (h : (gy m).cls = RX4) : gIni m mX5_init 38 0 := ⟨kX5_init, rfl, rfl, rfl, tW1 75 (by decide +kernel) rfl, Or.inr ⟨"RugPunch", by rw [h]; exact tN1 74 (by decide +kernel) rfl⟩⟩
theorem oX5_3 {m : GM} (h : (gy m).cls = RX5) : Cond.methodLink (gy m).cls 3 Lib.objectInit ∈ gW := by rw [h]; exact tW1 77 (by decide +kernel) rfl
theorem oX6_3 {m : GM} (h : (gy m).cls = RX6) : Cond.methodLink (gy m).cls 3 Lib.objectInit ∈ gW := by rw [h]; exact tW1 54 (by decide +kernel) rfl
theorem iL_144 {m : GM} (h : (gy m).cls = RL) : gIni m mX7_init 144 0 := ⟨kX7_init, rfl, rfl, rfl, tW1 21 (by decide +kernel) rfl, Or.inl (by rw [h]; exact tW1 20 (by decide +kernel) rfl)⟩
theorem iL_147 {m : GM} (h : (gy m).cls = RL) : gIni m mX8_init 147 0 := ⟨kX8_init, rfl, rfl, rfl, tW5 136 (by decide +kernel) rfl, Or.inl (by rw [h]; exact tW5 135 (by decide +kernel) rfl)⟩
theorem oX8_1 {m : GM} (h : (gy m).cls = RX8) : Cond.methodLink (gy m).cls 1 Lib.objectInit ∈ gW := by rw [h]; exact tW5 138 (by decide +kernel) rfl
theorem zX7_120 {m : GM} (h : (gy m).cls = RX7) : Cond.constantFloat (gy m).cls 120 (1125122048) ∈ gW := by rw [h]; exact tW2 47 (by decide +kernel) rfl
theorem zX7_297 {m : GM} (h : (gy m).cls = RX7) : Cond.constantLong (gy m).cls 297 (6364136223846793005) ∈ gW := by rw [h]; exact tW5 108 (by decide +kernel) rfl
theorem zX7_299 {m : GM} (h : (gy m).cls = RX7) : Cond.constantLong (gy m).cls 299 (1442695040888963407) ∈ gW := by rw [h]; exact tW5 109 (by decide +kernel) rfl
theorem zX3_41 {m : GM} (h : (gy m).cls = RX3) : Cond.constant (gy m).cls 41 (1000000) ∈ gW := by rw [h]; exact tW4 228 (by decide +kernel) rfl
theorem zL_354 {m : GM} (h : (gy m).cls = RL) : Cond.constantLong (gy m).cls 354 (4294967295) ∈ gW := by rw [h]; exact tW7 146 (by decide +kernel) rfl
theorem zX8_51 {m : GM} (h : (gy m).cls = RX8) : Cond.constantLong (gy m).cls 51 (143) ∈ gW := by rw [h]; exact tW6 21 (by decide +kernel) rfl
theorem zX8_57 {m : GM} (h : (gy m).cls = RX8) : Cond.constantLong (gy m).cls 57 (4) ∈ gW := by rw [h]; exact tW6 71 (by decide +kernel) rfl
theorem zX8_59 {m : GM} (h : (gy m).cls = RX8) : Cond.constantLong (gy m).cls 59 (5) ∈ gW := by rw [h]; exact tW6 29 (by decide +kernel) rfl
theorem zX8_69 {m : GM} (h : (gy m).cls = RX8) : Cond.constantLong (gy m).cls 69 (11) ∈ gW := by rw [h]; exact tW6 79 (by decide +kernel) rfl
theorem zX8_144 {m : GM} (h : (gy m).cls = RX8) : Cond.constantLong (gy m).cls 144 (255) ∈ gW := by rw [h]; exact tW5 208 (by decide +kernel) rfl
theorem zX8_173 {m : GM} (h : (gy m).cls = RX8) : Cond.constantLong (gy m).cls 173 (50) ∈ gW := by rw [h]; exact tW5 236 (by decide +kernel) rfl
theorem zX8_175 {m : GM} (h : (gy m).cls = RX8) : Cond.constantLong (gy m).cls 175 (57) ∈ gW := by rw [h]; exact tW5 237 (by decide +kernel) rfl
theorem zX8_210 {m : GM} (h : (gy m).cls = RX8) : Cond.constantFloat (gy m).cls 210 (1125122048) ∈ gW := by rw [h]; exact tW6 91 (by decide +kernel) rfl
theorem zX8_214 {m : GM} (h : (gy m).cls = RX8) : Cond.constantLong (gy m).cls 214 (3) ∈ gW := by rw [h]; exact tW6 172 (by decide +kernel) rfl
theorem zX8_219 {m : GM} (h : (gy m).cls = RX8) : Cond.constantLong (gy m).cls 219 (-1) ∈ gW := by rw [h]; exact tW6 181 (by decide +kernel) rfl
theorem zX8_224 {m : GM} (h : (gy m).cls = RX8) : Cond.constantLong (gy m).cls 224 (12) ∈ gW := by rw [h]; exact tW6 215 (by decide +kernel) rfl
theorem zX8_226 {m : GM} (h : (gy m).cls = RX8) : Cond.constantLong (gy m).cls 226 (9) ∈ gW := by rw [h]; exact tW7 17 (by decide +kernel) rfl
theorem zX8_228 {m : GM} (h : (gy m).cls = RX8) : Cond.constantLong (gy m).cls 228 (9999) ∈ gW := by rw [h]; exact tW7 26 (by decide +kernel) rfl
theorem zX8_253 {m : GM} (h : (gy m).cls = RX8) : Cond.constantLong (gy m).cls 253 (60) ∈ gW := by rw [h]; exact tW7 131 (by decide +kernel) rfl
theorem zX8_255 {m : GM} (h : (gy m).cls = RX8) : Cond.constantLong (gy m).cls 255 (6364136223846793005) ∈ gW := by rw [h]; exact tW7 132 (by decide +kernel) rfl
theorem zX8_257 {m : GM} (h : (gy m).cls = RX8) : Cond.constantLong (gy m).cls 257 (1442695040888963407) ∈ gW := by rw [h]; exact tW7 133 (by decide +kernel) rfl
theorem nX7_9 {m : GM} (h : (gy m).cls = RX7) : gNW m 9 4 9 [.null, .null, .null, .int 0, .int 0, .int 0, .int 0, .int 0, .int 0] := ⟨RX4, TX4, tyX4, rfl, uX4, tyX4_ok, by decide, by rw [h]; exact tW1 26 (by decide +kernel) rfl, tW1 27 (by decide +kernel) rfl, tW1 2 (by decide +kernel) rfl⟩
theorem nX7_23 {m : GM} (h : (gy m).cls = RX7) : gNW m 23 2 3 [.null, .int 0, .int 0] := ⟨RX2, TX2, tyX2, rfl, uX2, tyX2_ok, by decide, by rw [h]; exact tW1 127 (by decide +kernel) rfl, tW1 128 (by decide +kernel) rfl, tW1 6 (by decide +kernel) rfl⟩
theorem nX7_30 {m : GM} (h : (gy m).cls = RX7) : gNW m 30 5 2 [.null, .int 0] := ⟨RX5, TX5, tyX5, rfl, uX5, tyX5_ok, by decide, by rw [h]; exact tW1 145 (by decide +kernel) rfl, tW1 73 (by decide +kernel) rfl, tW1 5 (by decide +kernel) rfl⟩
theorem nX7_37 {m : GM} (h : (gy m).cls = RX7) : gNW m 37 3 7 [.null, .null, .null, .null, .int 0, .int 0, .int 0] := ⟨RX3, TX3, tyX3, rfl, uX3, tyX3_ok, by decide, by rw [h]; exact tW1 147 (by decide +kernel) rfl, tW1 148 (by decide +kernel) rfl, tW1 7 (by decide +kernel) rfl⟩
theorem nX7_44 {m : GM} (h : (gy m).cls = RX7) : gNW m 44 0 4 [.null, .null, .int 0, .null] := ⟨RX0, TX0, tyX0, rfl, uX0, tyX0_ok, by decide, by rw [h]; exact tW1 176 (by decide +kernel) rfl, tW1 177 (by decide +kernel) rfl, tW1 8 (by decide +kernel) rfl⟩
theorem nX2_9 {m : GM} (h : (gy m).cls = RX2) : gNW m 9 4 9 [.null, .null, .null, .int 0, .int 0, .int 0, .int 0, .int 0, .int 0] := ⟨RX4, TX4, tyX4, rfl, uX4, tyX4_ok, by decide, by rw [h]; exact tW1 133 (by decide +kernel) rfl, tW1 27 (by decide +kernel) rfl, tW1 2 (by decide +kernel) rfl⟩
theorem nX4_9 {m : GM} (h : (gy m).cls = RX4) : gNW m 9 1 3 [.null, .null, .null] := ⟨RX1, TX1, tyX1, rfl, uX1, tyX1_ok, by decide, by rw [h]; exact tW1 32 (by decide +kernel) rfl, tW1 33 (by decide +kernel) rfl, tW1 3 (by decide +kernel) rfl⟩
theorem nX4_18 {m : GM} (h : (gy m).cls = RX4) : gNW m 18 6 5 [.null, .null, .null, .null, .null] := ⟨RX6, TX6, tyX6, rfl, uX6, tyX6_ok, by decide, by rw [h]; exact tW1 49 (by decide +kernel) rfl, tW1 50 (by decide +kernel) rfl, tW1 4 (by decide +kernel) rfl⟩
theorem nX4_25 {m : GM} (h : (gy m).cls = RX4) : gNW m 25 5 2 [.null, .int 0] := ⟨RX5, TX5, tyX5, rfl, uX5, tyX5_ok, by decide, by rw [h]; exact tW1 71 (by decide +kernel) rfl, tW1 73 (by decide +kernel) rfl, tW1 5 (by decide +kernel) rfl⟩
theorem nL_8 {m : GM} (h : (gy m).cls = RL) : gNW m 8 7 7 [.null, .null, .null, .null, .null, .null, .null] := ⟨RX7, TX7, tyX7, rfl, uX7, tyX7_ok, by decide, by rw [h]; exact tW1 18 (by decide +kernel) rfl, tW1 19 (by decide +kernel) rfl, tW1 1 (by decide +kernel) rfl⟩
theorem nL_145 {m : GM} (h : (gy m).cls = RL) : gNW m 145 8 20 [.int 0, .null, .null, .null, .null, .null, .null, .null, .null, .int 0, .int 0, .null, .int 0, .null, .null, .null, .int 0, .int 0, .int 0, .int 0] := ⟨RX8, TX8, tyX8, rfl, uX8, tyX8_ok, by decide, by rw [h]; exact tW5 133 (by decide +kernel) rfl, tW5 134 (by decide +kernel) rfl, tW1 9 (by decide +kernel) rfl⟩
theorem sX7_51 {m : GM} (h : (gy m).cls = RX7) : gSta m mX7_needRange 51 3 := ⟨kX7_needRange, rfl, tW2 213 (by decide +kernel) rfl, Or.inl (by rw [h]; exact tW2 212 (by decide +kernel) rfl)⟩
theorem sX7_74 {m : GM} (h : (gy m).cls = RX7) : gSta m mX7_needCell 74 1 := ⟨kX7_needCell, rfl, tW3 72 (by decide +kernel) rfl, Or.inl (by rw [h]; exact tW3 71 (by decide +kernel) rfl)⟩
theorem sX7_110 {m : GM} (h : (gy m).cls = RX7) : gSta m mX7_needColour 110 1 := ⟨kX7_needColour, rfl, tW3 129 (by decide +kernel) rfl, Or.inl (by rw [h]; exact tW3 128 (by decide +kernel) rfl)⟩
theorem sX7_139 {m : GM} (h : (gy m).cls = RX7) : gSta m mX7_beside 139 2 := ⟨kX7_beside, rfl, tW2 81 (by decide +kernel) rfl, Or.inl (by rw [h]; exact tW2 80 (by decide +kernel) rfl)⟩
theorem sX7_171 {m : GM} (h : (gy m).cls = RX7) : gSta m mX7_yarnForLoop 171 1 := ⟨kX7_yarnForLoop, rfl, tW2 155 (by decide +kernel) rfl, Or.inl (by rw [h]; exact tW3 219 (by decide +kernel) rfl)⟩
theorem sX7_177 {m : GM} (h : (gy m).cls = RX7) : gSta m mX7_needMotif 177 1 := ⟨kX7_needMotif, rfl, tW3 235 (by decide +kernel) rfl, Or.inl (by rw [h]; exact tW3 234 (by decide +kernel) rfl)⟩
theorem sX7_304 {m : GM} (h : (gy m).cls = RX7) : gSta m mX7_needSlot 304 1 := ⟨kX7_needSlot, rfl, tW5 122 (by decide +kernel) rfl, Or.inl (by rw [h]; exact tW5 121 (by decide +kernel) rfl)⟩
theorem sX0_39 {m : GM} (h : (gy m).cls = RX0) : gSta m mX7_beside 39 2 := ⟨kX7_beside, rfl, tW2 81 (by decide +kernel) rfl, Or.inr ⟨"RugPunch", by rw [h]; exact tN3 145 (by decide +kernel) rfl⟩⟩
theorem aX1_21 {m : GM} (h : (gy m).cls = RX1) : gAC m 21 := ⟨by rw [h]; exact tW2 115 (by decide +kernel) rfl, tW2 117 (by decide +kernel) rfl, tW2 116 (by decide +kernel) rfl, tW1 17 (by decide +kernel) rfl⟩
theorem sX1_34 {m : GM} (h : (gy m).cls = RX1) : gSta m mJ_max 34 2 := ⟨kJ_max, rfl, tW4 37 (by decide +kernel) rfl, Or.inl (by rw [h]; exact tW4 36 (by decide +kernel) rfl)⟩
theorem sX1_40 {m : GM} (h : (gy m).cls = RX1) : gSta m mJ_min 40 2 := ⟨kJ_min, rfl, tW4 40 (by decide +kernel) rfl, Or.inl (by rw [h]; exact tW4 39 (by decide +kernel) rfl)⟩
theorem sX1_55 {m : GM} (h : (gy m).cls = RX1) : gSta m mX7_yarnForLoop 55 1 := ⟨kX7_yarnForLoop, rfl, tW2 155 (by decide +kernel) rfl, Or.inr ⟨"RugPunch", by rw [h]; exact tN3 192 (by decide +kernel) rfl⟩⟩
theorem sX1_62 {m : GM} (h : (gy m).cls = RX1) : gSta m mJ_abs 62 1 := ⟨kJ_abs, rfl, tW5 59 (by decide +kernel) rfl, Or.inl (by rw [h]; exact tW5 58 (by decide +kernel) rfl)⟩
theorem sX2_22 {m : GM} (h : (gy m).cls = RX2) : gSta m mJ_floorMod 22 2 := ⟨kJ_floorMod, rfl, tW2 104 (by decide +kernel) rfl, Or.inl (by rw [h]; exact tW2 103 (by decide +kernel) rfl)⟩
theorem sX3_61 {m : GM} (h : (gy m).cls = RX3) : gSta m mX3_signsOf 61 1 := ⟨kX3_signsOf, rfl, tW5 0 (by decide +kernel) rfl, Or.inl (by rw [h]; exact tW4 239 (by decide +kernel) rfl)⟩
theorem sX4_75 {m : GM} (h : (gy m).cls = RX4) : gSta m mX7_yarnForLoop 75 1 := ⟨kX7_yarnForLoop, rfl, tW2 155 (by decide +kernel) rfl, Or.inr ⟨"RugPunch", by rw [h]; exact tN2 154 (by decide +kernel) rfl⟩⟩
theorem sX4_121 {m : GM} (h : (gy m).cls = RX4) : gSta m mX7_beside 121 2 := ⟨kX7_beside, rfl, tW2 81 (by decide +kernel) rfl, Or.inr ⟨"RugPunch", by rw [h]; exact tN2 202 (by decide +kernel) rfl⟩⟩
theorem sX4_124 {m : GM} (h : (gy m).cls = RX4) : gSta m mJ_floorMod 124 2 := ⟨kJ_floorMod, rfl, tW2 104 (by decide +kernel) rfl, Or.inl (by rw [h]; exact tW2 136 (by decide +kernel) rfl)⟩
theorem aX5_19 {m : GM} (h : (gy m).cls = RX5) : gAC m 19 := ⟨by rw [h]; exact tW2 131 (by decide +kernel) rfl, tW2 117 (by decide +kernel) rfl, tW2 116 (by decide +kernel) rfl, tW1 17 (by decide +kernel) rfl⟩
theorem sX5_29 {m : GM} (h : (gy m).cls = RX5) : gSta m mX5_awaitedAfter 29 3 := ⟨kX5_awaitedAfter, rfl, tW1 231 (by decide +kernel) rfl, Or.inl (by rw [h]; exact tW1 230 (by decide +kernel) rfl)⟩
theorem sX5_33 {m : GM} (h : (gy m).cls = RX5) : gSta m mX5_startOfOrder 33 2 := ⟨kX5_startOfOrder, rfl, tW1 234 (by decide +kernel) rfl, Or.inl (by rw [h]; exact tW1 233 (by decide +kernel) rfl)⟩
theorem sX5_37 {m : GM} (h : (gy m).cls = RX5) : gSta m mX5_endOfOrder 37 3 := ⟨kX5_endOfOrder, rfl, tW1 237 (by decide +kernel) rfl, Or.inl (by rw [h]; exact tW1 236 (by decide +kernel) rfl)⟩
theorem aX6_27 {m : GM} (h : (gy m).cls = RX6) : gAC m 27 := ⟨by rw [h]; exact tW2 122 (by decide +kernel) rfl, tW2 117 (by decide +kernel) rfl, tW2 116 (by decide +kernel) rfl, tW1 17 (by decide +kernel) rfl⟩
theorem sL_148 {m : GM} (h : (gy m).cls = RL) : gStaH m mL_append 148 3 := ⟨kL_append, by decide, tW2 204 (by decide +kernel) rfl, by rw [h]; exact tW2 203 (by decide +kernel) rfl⟩
theorem sL_165 {m : GM} (h : (gy m).cls = RL) : gStaH m mL_planOf 165 3 := ⟨kL_planOf, by decide, tW3 64 (by decide +kernel) rfl, by rw [h]; exact tW3 63 (by decide +kernel) rfl⟩
theorem sL_168 {m : GM} (h : (gy m).cls = RL) : gStaH m mL_loopOf 168 3 := ⟨kL_loopOf, by decide, tW3 92 (by decide +kernel) rfl, by rw [h]; exact tW3 91 (by decide +kernel) rfl⟩
theorem sL_171 {m : GM} (h : (gy m).cls = RL) : gStaH m mL_heightOf 171 3 := ⟨kL_heightOf, by decide, tW3 100 (by decide +kernel) rfl, by rw [h]; exact tW3 99 (by decide +kernel) rfl⟩
theorem sL_174 {m : GM} (h : (gy m).cls = RL) : gStaH m mL_isSkipped 174 3 := ⟨kL_isSkipped, by decide, tW3 111 (by decide +kernel) rfl, by rw [h]; exact tW3 110 (by decide +kernel) rfl⟩
theorem sL_193 {m : GM} (h : (gy m).cls = RL) : gStaH m mL_areasBySpreading 193 3 := ⟨kL_areasBySpreading, by decide, tW3 122 (by decide +kernel) rfl, by rw [h]; exact tW3 121 (by decide +kernel) rfl⟩
theorem sL_196 {m : GM} (h : (gy m).cls = RL) : gStaH m mL_areasByJoining 196 3 := ⟨kL_areasByJoining, by decide, tW3 147 (by decide +kernel) rfl, by rw [h]; exact tW3 146 (by decide +kernel) rfl⟩
theorem sL_238 {m : GM} (h : (gy m).cls = RL) : gStaH m mL_coneOf 238 3 := ⟨kL_coneOf, by decide, tW3 166 (by decide +kernel) rfl, by rw [h]; exact tW3 165 (by decide +kernel) rfl⟩
theorem sL_241 {m : GM} (h : (gy m).cls = RL) : gStaH m mL_drawnByCone 241 3 := ⟨kL_drawnByCone, by decide, tW3 174 (by decide +kernel) rfl, by rw [h]; exact tW3 173 (by decide +kernel) rfl⟩
theorem sL_244 {m : GM} (h : (gy m).cls = RL) : gStaH m mL_drawnByRug 244 3 := ⟨kL_drawnByRug, by decide, tW3 182 (by decide +kernel) rfl, by rw [h]; exact tW3 181 (by decide +kernel) rfl⟩
theorem sL_247 {m : GM} (h : (gy m).cls = RL) : gStaH m mL_wasteOf 247 3 := ⟨kL_wasteOf, by decide, tW3 198 (by decide +kernel) rfl, by rw [h]; exact tW3 197 (by decide +kernel) rfl⟩
theorem sL_250 {m : GM} (h : (gy m).cls = RL) : gStaH m mL_neededFor 250 3 := ⟨kL_neededFor, by decide, tW3 209 (by decide +kernel) rfl, by rw [h]; exact tW3 208 (by decide +kernel) rfl⟩
theorem sL_253 {m : GM} (h : (gy m).cls = RL) : gStaH m mL_untilKnot 253 3 := ⟨kL_untilKnot, by decide, tW3 221 (by decide +kernel) rfl, by rw [h]; exact tW3 220 (by decide +kernel) rfl⟩
theorem sL_260 {m : GM} (h : (gy m).cls = RL) : gStaH m mL_motifLength 260 3 := ⟨kL_motifLength, by decide, tW3 228 (by decide +kernel) rfl, by rw [h]; exact tW3 227 (by decide +kernel) rfl⟩
theorem sL_263 {m : GM} (h : (gy m).cls = RL) : gStaH m mL_motifSign 263 4 := ⟨kL_motifSign, by decide, tW4 3 (by decide +kernel) rfl, by rw [h]; exact tW4 2 (by decide +kernel) rfl⟩
theorem sL_267 {m : GM} (h : (gy m).cls = RL) : gStaH m mL_setPlan 267 4 := ⟨kL_setPlan, by decide, tW4 15 (by decide +kernel) rfl, by rw [h]; exact tW4 14 (by decide +kernel) rfl⟩
theorem sL_270 {m : GM} (h : (gy m).cls = RL) : gStaH m mL_fillPlan 270 5 := ⟨kL_fillPlan, by decide, tW4 26 (by decide +kernel) rfl, by rw [h]; exact tW4 25 (by decide +kernel) rfl⟩
theorem sL_274 {m : GM} (h : (gy m).cls = RL) : gStaH m mL_thread 274 3 := ⟨kL_thread, by decide, tW4 44 (by decide +kernel) rfl, by rw [h]; exact tW4 43 (by decide +kernel) rfl⟩
theorem sL_277 {m : GM} (h : (gy m).cls = RL) : gStaH m mL_cut 277 2 := ⟨kL_cut, by decide, tW4 70 (by decide +kernel) rfl, by rw [h]; exact tW4 69 (by decide +kernel) rfl⟩
theorem sL_281 {m : GM} (h : (gy m).cls = RL) : gStaH m mL_sew 281 3 := ⟨kL_sew, by decide, tW4 83 (by decide +kernel) rfl, by rw [h]; exact tW4 82 (by decide +kernel) rfl⟩
theorem sL_284 {m : GM} (h : (gy m).cls = RL) : gStaH m mL_jump 284 3 := ⟨kL_jump, by decide, tW4 91 (by decide +kernel) rfl, by rw [h]; exact tW4 90 (by decide +kernel) rfl⟩
theorem sL_295 {m : GM} (h : (gy m).cls = RL) : gStaH m mL_ease 295 2 := ⟨kL_ease, by decide, tW4 102 (by decide +kernel) rfl, by rw [h]; exact tW4 101 (by decide +kernel) rfl⟩
theorem sL_298 {m : GM} (h : (gy m).cls = RL) : gStaH m mL_setHeight 298 3 := ⟨kL_setHeight, by decide, tW4 117 (by decide +kernel) rfl, by rw [h]; exact tW4 116 (by decide +kernel) rfl⟩
theorem sL_301 {m : GM} (h : (gy m).cls = RL) : gStaH m mL_place 301 4 := ⟨kL_place, by decide, tW4 124 (by decide +kernel) rfl, by rw [h]; exact tW4 123 (by decide +kernel) rfl⟩
theorem sL_304 {m : GM} (h : (gy m).cls = RL) : gStaH m mL_wind 304 4 := ⟨kL_wind, by decide, tW4 132 (by decide +kernel) rfl, by rw [h]; exact tW4 131 (by decide +kernel) rfl⟩
theorem sL_307 {m : GM} (h : (gy m).cls = RL) : gStaH m mL_mend 307 3 := ⟨kL_mend, by decide, tW4 144 (by decide +kernel) rfl, by rw [h]; exact tW4 143 (by decide +kernel) rfl⟩
theorem sL_310 {m : GM} (h : (gy m).cls = RL) : gStaH m mL_unpick 310 3 := ⟨kL_unpick, by decide, tW4 162 (by decide +kernel) rfl, by rw [h]; exact tW4 161 (by decide +kernel) rfl⟩
theorem sL_313 {m : GM} (h : (gy m).cls = RL) : gStaH m mL_shear 313 3 := ⟨kL_shear, by decide, tW4 179 (by decide +kernel) rfl, by rw [h]; exact tW4 178 (by decide +kernel) rfl⟩
theorem sL_316 {m : GM} (h : (gy m).cls = RL) : gStaH m mL_store 316 3 := ⟨kL_store, by decide, tW4 190 (by decide +kernel) rfl, by rw [h]; exact tW4 189 (by decide +kernel) rfl⟩
theorem sL_319 {m : GM} (h : (gy m).cls = RL) : gStaH m mL_run 319 3 := ⟨kL_run, by decide, tW4 213 (by decide +kernel) rfl, by rw [h]; exact tW4 212 (by decide +kernel) rfl⟩
theorem sL_322 {m : GM} (h : (gy m).cls = RL) : gStaH m mL_runText 322 2 := ⟨kL_runText, by decide, tW5 18 (by decide +kernel) rfl, by rw [h]; exact tW5 17 (by decide +kernel) rfl⟩
theorem sL_325 {m : GM} (h : (gy m).cls = RL) : gStaH m mL_undo 325 2 := ⟨kL_undo, by decide, tW5 25 (by decide +kernel) rfl, by rw [h]; exact tW5 24 (by decide +kernel) rfl⟩
theorem sL_332 {m : GM} (h : (gy m).cls = RL) : gStaH m mL_whyNoMending 332 3 := ⟨kL_whyNoMending, by decide, tW5 37 (by decide +kernel) rfl, by rw [h]; exact tW5 36 (by decide +kernel) rfl⟩
theorem sL_339 {m : GM} (h : (gy m).cls = RL) : gStaH m mL_nearestByRings 339 3 := ⟨kL_nearestByRings, by decide, tW5 44 (by decide +kernel) rfl, by rw [h]; exact tW5 43 (by decide +kernel) rfl⟩
theorem sL_342 {m : GM} (h : (gy m).cls = RL) : gStaH m mL_nearestByCells 342 3 := ⟨kL_nearestByCells, by decide, tW5 66 (by decide +kernel) rfl, by rw [h]; exact tW5 65 (by decide +kernel) rfl⟩
theorem sL_345 {m : GM} (h : (gy m).cls = RL) : gStaH m mL_loopsBy 345 2 := ⟨kL_loopsBy, by decide, tW5 77 (by decide +kernel) rfl, by rw [h]; exact tW5 76 (by decide +kernel) rfl⟩
theorem sL_348 {m : GM} (h : (gy m).cls = RL) : gStaH m mL_needleBy 348 2 := ⟨kL_needleBy, by decide, tW5 88 (by decide +kernel) rfl, by rw [h]; exact tW5 87 (by decide +kernel) rfl⟩
theorem sL_351 {m : GM} (h : (gy m).cls = RL) : gStaH m mL_yarnBy 351 3 := ⟨kL_yarnBy, by decide, tW5 95 (by decide +kernel) rfl, by rw [h]; exact tW5 94 (by decide +kernel) rfl⟩
theorem sL_356 {m : GM} (h : (gy m).cls = RL) : gStaH m mL_simulate 356 4 := ⟨kL_simulate, by decide, tW5 102 (by decide +kernel) rfl, by rw [h]; exact tW5 101 (by decide +kernel) rfl⟩
theorem sL_360 {m : GM} (h : (gy m).cls = RL) : gStaH m mL_save 360 3 := ⟨kL_save, by decide, tW5 115 (by decide +kernel) rfl, by rw [h]; exact tW5 114 (by decide +kernel) rfl⟩
theorem sL_363 {m : GM} (h : (gy m).cls = RL) : gStaH m mL_restore 363 3 := ⟨kL_restore, by decide, tW5 126 (by decide +kernel) rfl, by rw [h]; exact tW5 125 (by decide +kernel) rfl⟩
theorem sX8_53 {m : GM} (h : (gy m).cls = RX8) : gSta m mX8_in 53 3 := ⟨kX8_in, rfl, tW5 210 (by decide +kernel) rfl, Or.inl (by rw [h]; exact tW5 209 (by decide +kernel) rfl)⟩
theorem sX8_61 {m : GM} (h : (gy m).cls = RX8) : gSta m mX8_hasLoop 61 2 := ⟨kX8_hasLoop, rfl, tW6 27 (by decide +kernel) rfl, Or.inl (by rw [h]; exact tW6 26 (by decide +kernel) rfl)⟩
theorem sX8_65 {m : GM} (h : (gy m).cls = RX8) : gSta m mX8_cone 65 3 := ⟨kX8_cone, rfl, tW6 133 (by decide +kernel) rfl, Or.inl (by rw [h]; exact tW6 132 (by decide +kernel) rfl)⟩
theorem sX8_71 {m : GM} (h : (gy m).cls = RX8) : gSta m mX8_drawn 71 2 := ⟨kX8_drawn, rfl, tW6 140 (by decide +kernel) rfl, Or.inl (by rw [h]; exact tW6 139 (by decide +kernel) rfl)⟩
theorem sX8_75 {m : GM} (h : (gy m).cls = RX8) : gSta m mX8_draw 75 4 := ⟨kX8_draw, rfl, tW6 205 (by decide +kernel) rfl, Or.inl (by rw [h]; exact tW6 204 (by decide +kernel) rfl)⟩
theorem sX8_79 {m : GM} (h : (gy m).cls = RX8) : gSta m mX8_goCut 79 1 := ⟨kX8_goCut, rfl, tW6 202 (by decide +kernel) rfl, Or.inl (by rw [h]; exact tW6 201 (by decide +kernel) rfl)⟩
theorem sX8_83 {m : GM} (h : (gy m).cls = RX8) : gSta m mX8_yarn 83 1 := ⟨kX8_yarn, rfl, tW6 155 (by decide +kernel) rfl, Or.inl (by rw [h]; exact tW6 154 (by decide +kernel) rfl)⟩
theorem sX8_87 {m : GM} (h : (gy m).cls = RX8) : gSta m mX8_pull 87 5 := ⟨kX8_pull, rfl, tW6 226 (by decide +kernel) rfl, Or.inl (by rw [h]; exact tW6 225 (by decide +kernel) rfl)⟩
theorem sX8_91 {m : GM} (h : (gy m).cls = RX8) : gSta m mX8_next 91 2 := ⟨kX8_next, rfl, tW6 77 (by decide +kernel) rfl, Or.inl (by rw [h]; exact tW6 76 (by decide +kernel) rfl)⟩
theorem sX8_95 {m : GM} (h : (gy m).cls = RX8) : gSta m mX8_noStitch 95 1 := ⟨kX8_noStitch, rfl, tW6 217 (by decide +kernel) rfl, Or.inl (by rw [h]; exact tW6 216 (by decide +kernel) rfl)⟩
theorem sX8_98 {m : GM} (h : (gy m).cls = RX8) : gSta m mX8_stitch 98 1 := ⟨kX8_stitch, rfl, tW6 223 (by decide +kernel) rfl, Or.inl (by rw [h]; exact tW6 222 (by decide +kernel) rfl)⟩
theorem sX8_111 {m : GM} (h : (gy m).cls = RX8) : gSta m mX8_goSew 111 2 := ⟨kX8_goSew, rfl, tW6 220 (by decide +kernel) rfl, Or.inl (by rw [h]; exact tW6 219 (by decide +kernel) rfl)⟩
theorem sX8_114 {m : GM} (h : (gy m).cls = RX8) : gSta m mX8_goJump 114 2 := ⟨kX8_goJump, rfl, tW6 233 (by decide +kernel) rfl, Or.inl (by rw [h]; exact tW6 232 (by decide +kernel) rfl)⟩
theorem sX8_121 {m : GM} (h : (gy m).cls = RX8) : gSta m mX8_goTurn 121 2 := ⟨kX8_goTurn, rfl, tW7 0 (by decide +kernel) rfl, Or.inl (by rw [h]; exact tW6 239 (by decide +kernel) rfl)⟩
theorem sX8_124 {m : GM} (h : (gy m).cls = RX8) : gSta m mX8_goEase 124 1 := ⟨kX8_goEase, rfl, tW7 11 (by decide +kernel) rfl, Or.inl (by rw [h]; exact tW7 10 (by decide +kernel) rfl)⟩
theorem sX8_127 {m : GM} (h : (gy m).cls = RX8) : gSta m mX8_goThread 127 2 := ⟨kX8_goThread, rfl, tW6 199 (by decide +kernel) rfl, Or.inl (by rw [h]; exact tW6 198 (by decide +kernel) rfl)⟩
theorem sX8_186 {m : GM} (h : (gy m).cls = RX8) : gSta m mX8_isCell 186 1 := ⟨kX8_isCell, rfl, tW6 19 (by decide +kernel) rfl, Or.inl (by rw [h]; exact tW6 18 (by decide +kernel) rfl)⟩
theorem sX8_189 {m : GM} (h : (gy m).cls = RX8) : gSta m mX8_isColour 189 1 := ⟨kX8_isColour, rfl, tW6 69 (by decide +kernel) rfl, Or.inl (by rw [h]; exact tW6 68 (by decide +kernel) rfl)⟩
theorem sX8_195 {m : GM} (h : (gy m).cls = RX8) : gSta m mX8_isMissing 195 2 := ⟨kX8_isMissing, rfl, tW6 47 (by decide +kernel) rfl, Or.inl (by rw [h]; exact tW6 46 (by decide +kernel) rfl)⟩
theorem sX8_198 {m : GM} (h : (gy m).cls = RX8) : gSta m mX8_skippedIn 198 1 := ⟨kX8_skippedIn, rfl, tW6 58 (by decide +kernel) rfl, Or.inl (by rw [h]; exact tW6 57 (by decide +kernel) rfl)⟩
theorem sX8_207 {m : GM} (h : (gy m).cls = RX8) : gSta m mX8_loops 207 1 := ⟨kX8_loops, rfl, tW6 89 (by decide +kernel) rfl, Or.inl (by rw [h]; exact tW6 88 (by decide +kernel) rfl)⟩
theorem sX8_216 {m : GM} (h : (gy m).cls = RX8) : gSta m mX8_isMotif 216 1 := ⟨kX8_isMotif, rfl, tW6 170 (by decide +kernel) rfl, Or.inl (by rw [h]; exact tW6 169 (by decide +kernel) rfl)⟩
theorem sX8_230 {m : GM} (h : (gy m).cls = RX8) : gSta m mX8_noMending 230 2 := ⟨kX8_noMending, rfl, tW7 32 (by decide +kernel) rfl, Or.inl (by rw [h]; exact tW7 31 (by decide +kernel) rfl)⟩
theorem sX8_233 {m : GM} (h : (gy m).cls = RX8) : gSta m mX8_goUnpick 233 2 := ⟨kX8_goUnpick, rfl, tW7 39 (by decide +kernel) rfl, Or.inl (by rw [h]; exact tW7 38 (by decide +kernel) rfl)⟩
theorem sX8_236 {m : GM} (h : (gy m).cls = RX8) : gSta m mX8_goShear 236 2 := ⟨kX8_goShear, rfl, tW7 46 (by decide +kernel) rfl, Or.inl (by rw [h]; exact tW7 45 (by decide +kernel) rfl)⟩
theorem sX8_242 {m : GM} (h : (gy m).cls = RX8) : gSta m mX8_copy 242 2 := ⟨kX8_copy, rfl, tW7 97 (by decide +kernel) rfl, Or.inl (by rw [h]; exact tW7 96 (by decide +kernel) rfl)⟩
theorem vX7_66 {m : GM} (h : (gy m).cls = RX7) : gVir m mX5_add 66 5 1 := ⟨kX5_add, rfl, jX5_add, by rw [h]; exact tW3 59 (by decide +kernel) rfl, _, rfl, rfl⟩
theorem vX7_70 {m : GM} (h : (gy m).cls = RX7) : gVir m mX5_firstError 70 5 0 := ⟨kX5_firstError, rfl, jX5_firstError, by rw [h]; exact tW1 226 (by decide +kernel) rfl, _, rfl, rfl⟩
theorem vX7_82 {m : GM} (h : (gy m).cls = RX7) : gVir m mX1_planAt 82 1 1 := ⟨kX1_planAt, rfl, jX1_planAt, by rw [h]; exact tW3 90 (by decide +kernel) rfl, _, rfl, rfl⟩
theorem vX7_88 {m : GM} (h : (gy m).cls = RX7) : gVir m mX1_loopAt 88 1 1 := ⟨kX1_loopAt, rfl, jX1_loopAt, by rw [h]; exact tW3 98 (by decide +kernel) rfl, _, rfl, rfl⟩
theorem vX7_91 {m : GM} (h : (gy m).cls = RX7) : gVir m mX1_heightAt 91 1 1 := ⟨kX1_heightAt, rfl, jX1_heightAt, by rw [h]; exact tW3 106 (by decide +kernel) rfl, _, rfl, rfl⟩
theorem vX7_94 {m : GM} (h : (gy m).cls = RX7) : gVir m mX1_skippedAt 94 1 1 := ⟨kX1_skippedAt, rfl, jX1_skippedAt, by rw [h]; exact tW3 117 (by decide +kernel) rfl, _, rfl, rfl⟩
theorem vX7_98 {m : GM} (h : (gy m).cls = RX7) : gVir m mX1_countRight 98 1 0 := ⟨kX1_countRight, rfl, jX1_countRight, by rw [h]; exact tW2 3 (by decide +kernel) rfl, _, rfl, rfl⟩
theorem vX7_101 {m : GM} (h : (gy m).cls = RX7) : gVir m mX1_countMissing 101 1 0 := ⟨kX1_countMissing, rfl, jX1_countMissing, by rw [h]; exact tW2 11 (by decide +kernel) rfl, _, rfl, rfl⟩
theorem vX7_104 {m : GM} (h : (gy m).cls = RX7) : gVir m mX1_countLoops 104 1 0 := ⟨kX1_countLoops, rfl, jX1_countLoops, by rw [h]; exact tW2 31 (by decide +kernel) rfl, _, rfl, rfl⟩
theorem vX7_107 {m : GM} (h : (gy m).cls = RX7) : gVir m mX1_countSkipped 107 1 0 := ⟨kX1_countSkipped, rfl, jX1_countSkipped, by rw [h]; exact tW2 39 (by decide +kernel) rfl, _, rfl, rfl⟩
theorem vX7_113 {m : GM} (h : (gy m).cls = RX7) : gVir m mX0_countSpreading 113 0 2 := ⟨kX0_countSpreading, rfl, jX0_countSpreading, by rw [h]; exact tW3 132 (by decide +kernel) rfl, _, rfl, rfl⟩
theorem vX7_117 {m : GM} (h : (gy m).cls = RX7) : gVir m mX0_countJoining 117 0 2 := ⟨kX0_countJoining, rfl, jX0_countJoining, by rw [h]; exact tW3 153 (by decide +kernel) rfl, _, rfl, rfl⟩
theorem vX7_121 {m : GM} (h : (gy m).cls = RX7) : gVir m mX1_sumHeights 121 1 0 := ⟨kX1_sumHeights, rfl, jX1_sumHeights, by rw [h]; exact tW2 52 (by decide +kernel) rfl, _, rfl, rfl⟩
theorem vX7_143 {m : GM} (h : (gy m).cls = RX7) : gVir m mX4_isTight 143 4 0 := ⟨kX4_isTight, rfl, jX4_isTight, by rw [h]; exact tW2 87 (by decide +kernel) rfl, _, rfl, rfl⟩
theorem vX7_151 {m : GM} (h : (gy m).cls = RX7) : gVir m mX6_onCone 151 6 1 := ⟨kX6_onCone, rfl, jX6_onCone, by rw [h]; exact tW3 172 (by decide +kernel) rfl, _, rfl, rfl⟩
theorem vX7_156 {m : GM} (h : (gy m).cls = RX7) : gVir m mX6_drawn 156 6 1 := ⟨kX6_drawn, rfl, jX6_drawn, by rw [h]; exact tW3 180 (by decide +kernel) rfl, _, rfl, rfl⟩
theorem vX7_159 {m : GM} (h : (gy m).cls = RX7) : gVir m mX1_yarnInLoops 159 1 1 := ⟨kX1_yarnInLoops, rfl, jX1_yarnInLoops, by rw [h]; exact tW3 188 (by decide +kernel) rfl, _, rfl, rfl⟩
theorem vX7_162 {m : GM} (h : (gy m).cls = RX7) : gVir m mX6_outsideLoops 162 6 1 := ⟨kX6_outsideLoops, rfl, jX6_outsideLoops, by rw [h]; exact tW3 193 (by decide +kernel) rfl, _, rfl, rfl⟩
theorem vX7_165 {m : GM} (h : (gy m).cls = RX7) : gVir m mX6_wasted 165 6 1 := ⟨kX6_wasted, rfl, jX6_wasted, by rw [h]; exact tW3 204 (by decide +kernel) rfl, _, rfl, rfl⟩
theorem vX7_168 {m : GM} (h : (gy m).cls = RX7) : gVir m mX1_countMissingOf 168 1 1 := ⟨kX1_countMissingOf, rfl, jX1_countMissingOf, by rw [h]; exact tW3 215 (by decide +kernel) rfl, _, rfl, rfl⟩
theorem vX7_180 {m : GM} (h : (gy m).cls = RX7) : gVir m mX4_motifAt 180 4 1 := ⟨kX4_motifAt, rfl, jX4_motifAt, by rw [h]; exact tW3 238 (by decide +kernel) rfl, _, rfl, rfl⟩
theorem vX7_189 {m : GM} (h : (gy m).cls = RX7) : gVir m mX5_signAt 189 5 1 := ⟨kX5_signAt, rfl, jX5_signAt, by rw [h]; exact tW4 10 (by decide +kernel) rfl, _, rfl, rfl⟩
theorem vX7_193 {m : GM} (h : (gy m).cls = RX7) : gVir m mX2_remember 193 2 1 := ⟨kX2_remember, rfl, jX2_remember, by rw [h]; exact tW2 99 (by decide +kernel) rfl, _, rfl, rfl⟩
theorem vX7_197 {m : GM} (h : (gy m).cls = RX7) : gVir m mX1_setPlanAt 197 1 2 := ⟨kX1_setPlanAt, rfl, jX1_setPlanAt, by rw [h]; exact tW4 21 (by decide +kernel) rfl, _, rfl, rfl⟩
theorem vX7_201 {m : GM} (h : (gy m).cls = RX7) : gVir m mX1_fillBetween 201 1 3 := ⟨kX1_fillBetween, rfl, jX1_fillBetween, by rw [h]; exact tW4 32 (by decide +kernel) rfl, _, rfl, rfl⟩
theorem vX7_205 {m : GM} (h : (gy m).cls = RX7) : gVir m mX6_hasEnd 205 6 1 := ⟨kX6_hasEnd, rfl, jX6_hasEnd, by rw [h]; exact tW4 50 (by decide +kernel) rfl, _, rfl, rfl⟩
theorem vX7_210 {m : GM} (h : (gy m).cls = RX7) : gVir m mX4_tryThread 210 4 1 := ⟨kX4_tryThread, rfl, jX4_tryThread, by rw [h]; exact tW4 56 (by decide +kernel) rfl, _, rfl, rfl⟩
theorem vX7_213 {m : GM} (h : (gy m).cls = RX7) : gVir m mX7_needThreaded 213 7 0 := ⟨kX7_needThreaded, rfl, jX7_needThreaded, by rw [h]; exact tW4 76 (by decide +kernel) rfl, _, rfl, rfl⟩
theorem vX7_216 {m : GM} (h : (gy m).cls = RX7) : gVir m mX4_tryCut 216 4 0 := ⟨kX4_tryCut, rfl, jX4_tryCut, by rw [h]; exact tW4 81 (by decide +kernel) rfl, _, rfl, rfl⟩
theorem vX7_219 {m : GM} (h : (gy m).cls = RX7) : gVir m mX4_reasonAgainstStitch 219 4 0 := ⟨kX4_reasonAgainstStitch, rfl, jX4_reasonAgainstStitch, by rw [h]; exact tW2 145 (by decide +kernel) rfl, _, rfl, rfl⟩
theorem vX7_224 {m : GM} (h : (gy m).cls = RX7) : gVir m mX4_sewUpTo 224 4 1 := ⟨kX4_sewUpTo, rfl, jX4_sewUpTo, by rw [h]; exact tW2 162 (by decide +kernel) rfl, _, rfl, rfl⟩
theorem vX7_227 {m : GM} (h : (gy m).cls = RX7) : gVir m mX4_jumpOver 227 4 1 := ⟨kX4_jumpOver, rfl, jX4_jumpOver, by rw [h]; exact tW4 97 (by decide +kernel) rfl, _, rfl, rfl⟩
theorem vX7_230 {m : GM} (h : (gy m).cls = RX7) : gVir m mX4_turnBy 230 4 1 := ⟨kX4_turnBy, rfl, jX4_turnBy, by rw [h]; exact tW2 132 (by decide +kernel) rfl, _, rfl, rfl⟩
theorem vX7_233 {m : GM} (h : (gy m).cls = RX7) : gVir m mX4_tryEase 233 4 0 := ⟨kX4_tryEase, rfl, jX4_tryEase, by rw [h]; exact tW4 108 (by decide +kernel) rfl, _, rfl, rfl⟩
theorem vX7_240 {m : GM} (h : (gy m).cls = RX7) : gVir m mX6_putOn 240 6 2 := ⟨kX6_putOn, rfl, jX6_putOn, by rw [h]; exact tW4 139 (by decide +kernel) rfl, _, rfl, rfl⟩
theorem vX7_243 {m : GM} (h : (gy m).cls = RX7) : gVir m mX4_reasonAgainstMending 243 4 1 := ⟨kX4_reasonAgainstMending, rfl, jX4_reasonAgainstMending, by rw [h]; exact tW4 150 (by decide +kernel) rfl, _, rfl, rfl⟩
theorem vX7_248 {m : GM} (h : (gy m).cls = RX7) : gVir m mX4_mendAt 248 4 1 := ⟨kX4_mendAt, rfl, jX4_mendAt, by rw [h]; exact tW4 157 (by decide +kernel) rfl, _, rfl, rfl⟩
theorem vX7_253 {m : GM} (h : (gy m).cls = RX7) : gVir m mX4_tryUnpick 253 4 1 := ⟨kX4_tryUnpick, rfl, jX4_tryUnpick, by rw [h]; exact tW4 169 (by decide +kernel) rfl, _, rfl, rfl⟩
theorem vX7_256 {m : GM} (h : (gy m).cls = RX7) : gVir m mX4_shearTo 256 4 1 := ⟨kX4_shearTo, rfl, jX4_shearTo, by rw [h]; exact tW4 185 (by decide +kernel) rfl, _, rfl, rfl⟩
theorem vX7_259 {m : GM} (h : (gy m).cls = RX7) : gVir m mX7_needMotifText 259 7 0 := ⟨kX7_needMotifText, rfl, jX7_needMotifText, by rw [h]; exact tW4 196 (by decide +kernel) rfl, _, rfl, rfl⟩
theorem vX7_262 {m : GM} (h : (gy m).cls = RX7) : gVir m mX5_hasMotifFrom 262 5 1 := ⟨kX5_hasMotifFrom, rfl, jX5_hasMotifFrom, by rw [h]; exact tW4 201 (by decide +kernel) rfl, _, rfl, rfl⟩
theorem vX7_267 {m : GM} (h : (gy m).cls = RX7) : gVir m mX4_keepMotif 267 4 2 := ⟨kX4_keepMotif, rfl, jX4_keepMotif, by rw [h]; exact tW4 211 (by decide +kernel) rfl, _, rfl, rfl⟩
theorem vX7_273 {m : GM} (h : (gy m).cls = RX7) : gVir m mX3_play 273 3 2 := ⟨kX3_play, rfl, jX3_play, by rw [h]; exact tW4 220 (by decide +kernel) rfl, _, rfl, rfl⟩
theorem vX7_282 {m : GM} (h : (gy m).cls = RX7) : gVir m mX2_takeBack 282 2 1 := ⟨kX2_takeBack, rfl, jX2_takeBack, by rw [h]; exact tW5 32 (by decide +kernel) rfl, _, rfl, rfl⟩
theorem vX7_285 {m : GM} (h : (gy m).cls = RX7) : gVir m mX4_copyFrom 285 4 1 := ⟨kX4_copyFrom, rfl, jX4_copyFrom, by rw [h]; exact tW2 161 (by decide +kernel) rfl, _, rfl, rfl⟩
theorem vX7_288 {m : GM} (h : (gy m).cls = RX7) : gVir m mX1_nearestInRings 288 1 2 := ⟨kX1_nearestInRings, rfl, jX1_nearestInRings, by rw [h]; exact tW5 50 (by decide +kernel) rfl, _, rfl, rfl⟩
theorem vX7_291 {m : GM} (h : (gy m).cls = RX7) : gVir m mX1_nearestInCells 291 1 2 := ⟨kX1_nearestInCells, rfl, jX1_nearestInCells, by rw [h]; exact tW5 72 (by decide +kernel) rfl, _, rfl, rfl⟩
theorem vX7_294 {m : GM} (h : (gy m).cls = RX7) : gVir m mX7_tryText 294 7 0 := ⟨kX7_tryText, rfl, jX7_tryText, by rw [h]; exact tW5 83 (by decide +kernel) rfl, _, rfl, rfl⟩
theorem vX7_301 {m : GM} (h : (gy m).cls = RX7) : gVir m mX7_simulateTurn 301 7 1 := ⟨kX7_simulateTurn, rfl, jX7_simulateTurn, by rw [h]; exact tW5 110 (by decide +kernel) rfl, _, rfl, rfl⟩
theorem vX0_22 {m : GM} (h : (gy m).cls = RX0) : gVir m mX1_planAt 22 1 1 := ⟨kX1_planAt, rfl, jX1_planAt, by rw [h]; exact tW3 136 (by decide +kernel) rfl, _, rfl, rfl⟩
theorem vX0_28 {m : GM} (h : (gy m).cls = RX0) : gVir m mX0_spreadFrom 28 0 1 := ⟨kX0_spreadFrom, rfl, jX0_spreadFrom, by rw [h]; exact tW3 137 (by decide +kernel) rfl, _, rfl, rfl⟩
theorem vX0_36 {m : GM} (h : (gy m).cls = RX0) : gVir m mX0_reach 36 0 1 := ⟨kX0_reach, rfl, jX0_reach, by rw [h]; exact tW3 141 (by decide +kernel) rfl, _, rfl, rfl⟩
theorem vX0_43 {m : GM} (h : (gy m).cls = RX0) : gVir m mX0_joinBeside 43 0 3 := ⟨kX0_joinBeside, rfl, jX0_joinBeside, by rw [h]; exact tW3 157 (by decide +kernel) rfl, _, rfl, rfl⟩
theorem vX0_47 {m : GM} (h : (gy m).cls = RX0) : gVir m mX0_chiefOf 47 0 1 := ⟨kX0_chiefOf, rfl, jX0_chiefOf, by rw [h]; exact tW3 161 (by decide +kernel) rfl, _, rfl, rfl⟩
theorem vX1_27 {m : GM} (h : (gy m).cls = RX1) : gVir m mX1_planAt 27 1 1 := ⟨kX1_planAt, rfl, jX1_planAt, by rw [h]; exact tW2 19 (by decide +kernel) rfl, _, rfl, rfl⟩
theorem vX1_31 {m : GM} (h : (gy m).cls = RX1) : gVir m mX1_loopAt 31 1 1 := ⟨kX1_loopAt, rfl, jX1_loopAt, by rw [h]; exact tW2 23 (by decide +kernel) rfl, _, rfl, rfl⟩
theorem vX1_43 {m : GM} (h : (gy m).cls = RX1) : gVir m mX1_setPlanAt 43 1 2 := ⟨kX1_setPlanAt, rfl, jX1_setPlanAt, by rw [h]; exact tW4 42 (by decide +kernel) rfl, _, rfl, rfl⟩
theorem vX1_47 {m : GM} (h : (gy m).cls = RX1) : gVir m mX1_putLoop 47 1 3 := ⟨kX1_putLoop, rfl, jX1_putLoop, by rw [h]; exact tW2 180 (by decide +kernel) rfl, _, rfl, rfl⟩
theorem vX1_51 {m : GM} (h : (gy m).cls = RX1) : gVir m mX1_missingAt 51 1 1 := ⟨kX1_missingAt, rfl, jX1_missingAt, by rw [h]; exact tW2 15 (by decide +kernel) rfl, _, rfl, rfl⟩
theorem vX1_58 {m : GM} (h : (gy m).cls = RX1) : gVir m mX1_firstInRing 58 1 3 := ⟨kX1_firstInRing, rfl, jX1_firstInRing, by rw [h]; exact tW5 54 (by decide +kernel) rfl, _, rfl, rfl⟩
theorem vX1_65 {m : GM} (h : (gy m).cls = RX1) : gVir m mX1_missesAt 65 1 3 := ⟨kX1_missesAt, rfl, jX1_missesAt, by rw [h]; exact tW5 61 (by decide +kernel) rfl, _, rfl, rfl⟩
theorem vX2_29 {m : GM} (h : (gy m).cls = RX2) : gVir m mX4_copyFrom 29 4 1 := ⟨kX4_copyFrom, rfl, jX4_copyFrom, by rw [h]; exact tW2 107 (by decide +kernel) rfl, _, rfl, rfl⟩
theorem vX3_37 {m : GM} (h : (gy m).cls = RX3) : gVir m mX3_enter 37 3 1 := ⟨kX3_enter, rfl, jX3_enter, by rw [h]; exact tW4 224 (by decide +kernel) rfl, _, rfl, rfl⟩
theorem vX3_45 {m : GM} (h : (gy m).cls = RX3) : gVir m mX5_signAt 45 5 1 := ⟨kX5_signAt, rfl, jX5_signAt, by rw [h]; exact tW4 229 (by decide +kernel) rfl, _, rfl, rfl⟩
theorem vX3_49 {m : GM} (h : (gy m).cls = RX3) : gVir m mX3_endGroup 49 3 1 := ⟨kX3_endGroup, rfl, jX3_endGroup, by rw [h]; exact tW4 230 (by decide +kernel) rfl, _, rfl, rfl⟩
theorem vX3_53 {m : GM} (h : (gy m).cls = RX3) : gVir m mX3_doOrder 53 3 3 := ⟨kX3_doOrder, rfl, jX3_doOrder, by rw [h]; exact tW4 234 (by decide +kernel) rfl, _, rfl, rfl⟩
theorem vX3_57 {m : GM} (h : (gy m).cls = RX3) : gVir m mX5_digitAt 57 5 1 := ⟨kX5_digitAt, rfl, jX5_digitAt, by rw [h]; exact tW4 238 (by decide +kernel) rfl, _, rfl, rfl⟩
theorem vX3_65 {m : GM} (h : (gy m).cls = RX3) : gVir m mX3_goTo 65 3 1 := ⟨kX3_goTo, rfl, jX3_goTo, by rw [h]; exact tW5 2 (by decide +kernel) rfl, _, rfl, rfl⟩
theorem vX3_68 {m : GM} (h : (gy m).cls = RX3) : gVir m mX4_sewUpTo 68 4 1 := ⟨kX4_sewUpTo, rfl, jX4_sewUpTo, by rw [h]; exact tW5 6 (by decide +kernel) rfl, _, rfl, rfl⟩
theorem vX3_73 {m : GM} (h : (gy m).cls = RX3) : gVir m mX4_jumpOver 73 4 1 := ⟨kX4_jumpOver, rfl, jX4_jumpOver, by rw [h]; exact tW5 7 (by decide +kernel) rfl, _, rfl, rfl⟩
theorem vX3_76 {m : GM} (h : (gy m).cls = RX3) : gVir m mX4_turnBy 76 4 1 := ⟨kX4_turnBy, rfl, jX4_turnBy, by rw [h]; exact tW5 8 (by decide +kernel) rfl, _, rfl, rfl⟩
theorem vX3_79 {m : GM} (h : (gy m).cls = RX3) : gVir m mX4_tryThread 79 4 1 := ⟨kX4_tryThread, rfl, jX4_tryThread, by rw [h]; exact tW5 9 (by decide +kernel) rfl, _, rfl, rfl⟩
theorem vX3_86 {m : GM} (h : (gy m).cls = RX3) : gVir m mX4_tryCut 86 4 0 := ⟨kX4_tryCut, rfl, jX4_tryCut, by rw [h]; exact tW5 10 (by decide +kernel) rfl, _, rfl, rfl⟩
theorem vX3_90 {m : GM} (h : (gy m).cls = RX3) : gVir m mX4_tryEase 90 4 0 := ⟨kX4_tryEase, rfl, jX4_tryEase, by rw [h]; exact tW5 11 (by decide +kernel) rfl, _, rfl, rfl⟩
theorem vX3_93 {m : GM} (h : (gy m).cls = RX3) : gVir m mX4_motifAt 93 4 1 := ⟨kX4_motifAt, rfl, jX4_motifAt, by rw [h]; exact tW5 12 (by decide +kernel) rfl, _, rfl, rfl⟩
theorem vX3_97 {m : GM} (h : (gy m).cls = RX3) : gVir m mX3_startGroup 97 3 2 := ⟨kX3_startGroup, rfl, jX3_startGroup, by rw [h]; exact tW5 13 (by decide +kernel) rfl, _, rfl, rfl⟩
theorem vX4_39 {m : GM} (h : (gy m).cls = RX4) : gVir m mX1_copyFrom 39 1 1 := ⟨kX1_copyFrom, rfl, jX1_copyFrom, by rw [h]; exact tW2 111 (by decide +kernel) rfl, _, rfl, rfl⟩
theorem vX4_43 {m : GM} (h : (gy m).cls = RX4) : gVir m mX6_copyFrom 43 6 1 := ⟨kX6_copyFrom, rfl, jX6_copyFrom, by rw [h]; exact tW2 118 (by decide +kernel) rfl, _, rfl, rfl⟩
theorem vX4_46 {m : GM} (h : (gy m).cls = RX4) : gVir m mX4_keepMotif 46 4 2 := ⟨kX4_keepMotif, rfl, jX4_keepMotif, by rw [h]; exact tW2 123 (by decide +kernel) rfl, _, rfl, rfl⟩
theorem vX4_62 {m : GM} (h : (gy m).cls = RX4) : gVir m mX5_copyFrom 62 5 1 := ⟨kX5_copyFrom, rfl, jX5_copyFrom, by rw [h]; exact tW2 127 (by decide +kernel) rfl, _, rfl, rfl⟩
theorem vX4_68 {m : GM} (h : (gy m).cls = RX4) : gVir m mX1_loopAt 68 1 1 := ⟨kX1_loopAt, rfl, jX1_loopAt, by rw [h]; exact tW2 149 (by decide +kernel) rfl, _, rfl, rfl⟩
theorem vX4_72 {m : GM} (h : (gy m).cls = RX4) : gVir m mX6_onCone 72 6 1 := ⟨kX6_onCone, rfl, jX6_onCone, by rw [h]; exact tW2 150 (by decide +kernel) rfl, _, rfl, rfl⟩
theorem vX4_78 {m : GM} (h : (gy m).cls = RX4) : gVir m mX1_missingAt 78 1 1 := ⟨kX1_missingAt, rfl, jX1_missingAt, by rw [h]; exact tW4 154 (by decide +kernel) rfl, _, rfl, rfl⟩
theorem vX4_82 {m : GM} (h : (gy m).cls = RX4) : gVir m mX1_planAt 82 1 1 := ⟨kX1_planAt, rfl, jX1_planAt, by rw [h]; exact tW4 155 (by decide +kernel) rfl, _, rfl, rfl⟩
theorem vX4_85 {m : GM} (h : (gy m).cls = RX4) : gVir m mX4_reasonAgainstStitch 85 4 0 := ⟨kX4_reasonAgainstStitch, rfl, jX4_reasonAgainstStitch, by rw [h]; exact tW2 166 (by decide +kernel) rfl, _, rfl, rfl⟩
theorem vX4_89 {m : GM} (h : (gy m).cls = RX4) : gVir m mX4_punch 89 4 0 := ⟨kX4_punch, rfl, jX4_punch, by rw [h]; exact tW2 167 (by decide +kernel) rfl, _, rfl, rfl⟩
theorem vX4_92 {m : GM} (h : (gy m).cls = RX4) : gVir m mX4_goOn 92 4 0 := ⟨kX4_goOn, rfl, jX4_goOn, by rw [h]; exact tW2 198 (by decide +kernel) rfl, _, rfl, rfl⟩
theorem vX4_96 {m : GM} (h : (gy m).cls = RX4) : gVir m mX6_drawn 96 6 1 := ⟨kX6_drawn, rfl, jX6_drawn, by rw [h]; exact tW2 171 (by decide +kernel) rfl, _, rfl, rfl⟩
theorem vX4_99 {m : GM} (h : (gy m).cls = RX4) : gVir m mX4_isTight 99 4 0 := ⟨kX4_isTight, rfl, jX4_isTight, by rw [h]; exact tW2 175 (by decide +kernel) rfl, _, rfl, rfl⟩
theorem vX4_102 {m : GM} (h : (gy m).cls = RX4) : gVir m mX1_putSkipped 102 1 1 := ⟨kX1_putSkipped, rfl, jX1_putSkipped, by rw [h]; exact tW2 176 (by decide +kernel) rfl, _, rfl, rfl⟩
theorem vX4_106 {m : GM} (h : (gy m).cls = RX4) : gVir m mX6_drawFloat 106 6 2 := ⟨kX6_drawFloat, rfl, jX6_drawFloat, by rw [h]; exact tW2 184 (by decide +kernel) rfl, _, rfl, rfl⟩
theorem vX4_110 {m : GM} (h : (gy m).cls = RX4) : gVir m mX1_putLoop 110 1 3 := ⟨kX1_putLoop, rfl, jX1_putLoop, by rw [h]; exact tW2 192 (by decide +kernel) rfl, _, rfl, rfl⟩
theorem vX4_114 {m : GM} (h : (gy m).cls = RX4) : gVir m mX6_draw 114 6 2 := ⟨kX6_draw, rfl, jX6_draw, by rw [h]; exact tW2 193 (by decide +kernel) rfl, _, rfl, rfl⟩
theorem vX4_118 {m : GM} (h : (gy m).cls = RX4) : gVir m mX4_feelKnot 118 4 1 := ⟨kX4_feelKnot, rfl, jX4_feelKnot, by rw [h]; exact tW2 194 (by decide +kernel) rfl, _, rfl, rfl⟩
theorem vX4_129 {m : GM} (h : (gy m).cls = RX4) : gVir m mX6_hasEnd 129 6 1 := ⟨kX6_hasEnd, rfl, jX6_hasEnd, by rw [h]; exact tW4 60 (by decide +kernel) rfl, _, rfl, rfl⟩
theorem vX4_132 {m : GM} (h : (gy m).cls = RX4) : gVir m mX4_tryCut 132 4 0 := ⟨kX4_tryCut, rfl, jX4_tryCut, by rw [h]; exact tW4 61 (by decide +kernel) rfl, _, rfl, rfl⟩
theorem vX4_135 {m : GM} (h : (gy m).cls = RX4) : gVir m mX6_drawEnd 135 6 1 := ⟨kX6_drawEnd, rfl, jX6_drawEnd, by rw [h]; exact tW4 65 (by decide +kernel) rfl, _, rfl, rfl⟩
theorem vX4_138 {m : GM} (h : (gy m).cls = RX4) : gVir m mX6_addWaste 138 6 2 := ⟨kX6_addWaste, rfl, jX6_addWaste, by rw [h]; exact tW4 112 (by decide +kernel) rfl, _, rfl, rfl⟩
theorem vX4_141 {m : GM} (h : (gy m).cls = RX4) : gVir m mX1_heightAt 141 1 1 := ⟨kX1_heightAt, rfl, jX1_heightAt, by rw [h]; exact tW4 173 (by decide +kernel) rfl, _, rfl, rfl⟩
theorem vX4_144 {m : GM} (h : (gy m).cls = RX4) : gVir m mX1_clearCell 144 1 1 := ⟨kX1_clearCell, rfl, jX1_clearCell, by rw [h]; exact tW4 174 (by decide +kernel) rfl, _, rfl, rfl⟩
theorem vX5_25 {m : GM} (h : (gy m).cls = RX5) : gVir m mX5_signAt 25 5 1 := ⟨kX5_signAt, rfl, jX5_signAt, by rw [h]; exact tW4 209 (by decide +kernel) rfl, _, rfl, rfl⟩
theorem vX5_41 {m : GM} (h : (gy m).cls = RX5) : gVir m mX5_digitAt 41 5 1 := ⟨kX5_digitAt, rfl, jX5_digitAt, by rw [h]; exact tW4 205 (by decide +kernel) rfl, _, rfl, rfl⟩
theorem vX6_33 {m : GM} (h : (gy m).cls = RX6) : gVir m mX6_onCone 33 6 1 := ⟨kX6_onCone, rfl, jX6_onCone, by rw [h]; exact tW4 54 (by decide +kernel) rfl, _, rfl, rfl⟩
theorem vX6_37 {m : GM} (h : (gy m).cls = RX6) : gVir m mX6_draw 37 6 2 := ⟨kX6_draw, rfl, jX6_draw, by rw [h]; exact tW2 188 (by decide +kernel) rfl, _, rfl, rfl⟩
theorem vL_7 {m : GM} (h : (gy m).cls = RL) : gVir m mX7_append 7 7 1 := ⟨kX7_append, rfl, jX7_append, by rw [h]; exact tW2 208 (by decide +kernel) rfl, _, rfl, rfl⟩
theorem vL_17 {m : GM} (h : (gy m).cls = RL) : gVir m mX7_planOf 17 7 1 := ⟨kX7_planOf, rfl, jX7_planOf, by rw [h]; exact tW3 67 (by decide +kernel) rfl, _, rfl, rfl⟩
theorem vL_22 {m : GM} (h : (gy m).cls = RL) : gVir m mX7_loopOf 22 7 1 := ⟨kX7_loopOf, rfl, jX7_loopOf, by rw [h]; exact tW3 94 (by decide +kernel) rfl, _, rfl, rfl⟩
theorem vL_25 {m : GM} (h : (gy m).cls = RL) : gVir m mX7_heightOf 25 7 1 := ⟨kX7_heightOf, rfl, jX7_heightOf, by rw [h]; exact tW3 102 (by decide +kernel) rfl, _, rfl, rfl⟩
theorem vL_28 {m : GM} (h : (gy m).cls = RL) : gVir m mX7_isSkipped 28 7 1 := ⟨kX7_isSkipped, rfl, jX7_isSkipped, by rw [h]; exact tW3 113 (by decide +kernel) rfl, _, rfl, rfl⟩
theorem vL_32 {m : GM} (h : (gy m).cls = RL) : gVir m mX7_areasBySpreading 32 7 1 := ⟨kX7_areasBySpreading, rfl, jX7_areasBySpreading, by rw [h]; exact tW3 124 (by decide +kernel) rfl, _, rfl, rfl⟩
theorem vL_35 {m : GM} (h : (gy m).cls = RL) : gVir m mX7_areasByJoining 35 7 1 := ⟨kX7_areasByJoining, rfl, jX7_areasByJoining, by rw [h]; exact tW3 149 (by decide +kernel) rfl, _, rfl, rfl⟩
theorem vL_38 {m : GM} (h : (gy m).cls = RL) : gVir m mX7_coneOf 38 7 1 := ⟨kX7_coneOf, rfl, jX7_coneOf, by rw [h]; exact tW3 168 (by decide +kernel) rfl, _, rfl, rfl⟩
theorem vL_41 {m : GM} (h : (gy m).cls = RL) : gVir m mX7_drawnByCone 41 7 1 := ⟨kX7_drawnByCone, rfl, jX7_drawnByCone, by rw [h]; exact tW3 176 (by decide +kernel) rfl, _, rfl, rfl⟩
theorem vL_44 {m : GM} (h : (gy m).cls = RL) : gVir m mX7_drawnByRug 44 7 1 := ⟨kX7_drawnByRug, rfl, jX7_drawnByRug, by rw [h]; exact tW3 184 (by decide +kernel) rfl, _, rfl, rfl⟩
theorem vL_47 {m : GM} (h : (gy m).cls = RL) : gVir m mX7_wasteOf 47 7 1 := ⟨kX7_wasteOf, rfl, jX7_wasteOf, by rw [h]; exact tW3 200 (by decide +kernel) rfl, _, rfl, rfl⟩
theorem vL_50 {m : GM} (h : (gy m).cls = RL) : gVir m mX7_neededFor 50 7 1 := ⟨kX7_neededFor, rfl, jX7_neededFor, by rw [h]; exact tW3 211 (by decide +kernel) rfl, _, rfl, rfl⟩
theorem vL_53 {m : GM} (h : (gy m).cls = RL) : gVir m mX7_untilKnot 53 7 1 := ⟨kX7_untilKnot, rfl, jX7_untilKnot, by rw [h]; exact tW3 223 (by decide +kernel) rfl, _, rfl, rfl⟩
theorem vL_56 {m : GM} (h : (gy m).cls = RL) : gVir m mX7_motifLength 56 7 1 := ⟨kX7_motifLength, rfl, jX7_motifLength, by rw [h]; exact tW3 230 (by decide +kernel) rfl, _, rfl, rfl⟩
theorem vL_59 {m : GM} (h : (gy m).cls = RL) : gVir m mX7_motifSign 59 7 2 := ⟨kX7_motifSign, rfl, jX7_motifSign, by rw [h]; exact tW4 5 (by decide +kernel) rfl, _, rfl, rfl⟩
theorem vL_63 {m : GM} (h : (gy m).cls = RL) : gVir m mX7_setPlan 63 7 2 := ⟨kX7_setPlan, rfl, jX7_setPlan, by rw [h]; exact tW4 17 (by decide +kernel) rfl, _, rfl, rfl⟩
theorem vL_66 {m : GM} (h : (gy m).cls = RL) : gVir m mX7_fillPlan 66 7 3 := ⟨kX7_fillPlan, rfl, jX7_fillPlan, by rw [h]; exact tW4 28 (by decide +kernel) rfl, _, rfl, rfl⟩
theorem vL_70 {m : GM} (h : (gy m).cls = RL) : gVir m mX7_thread 70 7 1 := ⟨kX7_thread, rfl, jX7_thread, by rw [h]; exact tW4 46 (by decide +kernel) rfl, _, rfl, rfl⟩
theorem vL_73 {m : GM} (h : (gy m).cls = RL) : gVir m mX7_cut 73 7 0 := ⟨kX7_cut, rfl, jX7_cut, by rw [h]; exact tW4 72 (by decide +kernel) rfl, _, rfl, rfl⟩
theorem vL_77 {m : GM} (h : (gy m).cls = RL) : gVir m mX7_sew 77 7 1 := ⟨kX7_sew, rfl, jX7_sew, by rw [h]; exact tW4 85 (by decide +kernel) rfl, _, rfl, rfl⟩
theorem vL_80 {m : GM} (h : (gy m).cls = RL) : gVir m mX7_jump 80 7 1 := ⟨kX7_jump, rfl, jX7_jump, by rw [h]; exact tW4 93 (by decide +kernel) rfl, _, rfl, rfl⟩
theorem vL_83 {m : GM} (h : (gy m).cls = RL) : gVir m mX7_ease 83 7 0 := ⟨kX7_ease, rfl, jX7_ease, by rw [h]; exact tW4 104 (by decide +kernel) rfl, _, rfl, rfl⟩
theorem vL_86 {m : GM} (h : (gy m).cls = RL) : gVir m mX7_setHeight 86 7 1 := ⟨kX7_setHeight, rfl, jX7_setHeight, by rw [h]; exact tW4 119 (by decide +kernel) rfl, _, rfl, rfl⟩
theorem vL_89 {m : GM} (h : (gy m).cls = RL) : gVir m mX7_place 89 7 2 := ⟨kX7_place, rfl, jX7_place, by rw [h]; exact tW4 126 (by decide +kernel) rfl, _, rfl, rfl⟩
theorem vL_92 {m : GM} (h : (gy m).cls = RL) : gVir m mX7_wind 92 7 2 := ⟨kX7_wind, rfl, jX7_wind, by rw [h]; exact tW4 134 (by decide +kernel) rfl, _, rfl, rfl⟩
theorem vL_95 {m : GM} (h : (gy m).cls = RL) : gVir m mX7_mend 95 7 1 := ⟨kX7_mend, rfl, jX7_mend, by rw [h]; exact tW4 146 (by decide +kernel) rfl, _, rfl, rfl⟩
theorem vL_98 {m : GM} (h : (gy m).cls = RL) : gVir m mX7_unpick 98 7 1 := ⟨kX7_unpick, rfl, jX7_unpick, by rw [h]; exact tW4 164 (by decide +kernel) rfl, _, rfl, rfl⟩
theorem vL_101 {m : GM} (h : (gy m).cls = RL) : gVir m mX7_shear 101 7 1 := ⟨kX7_shear, rfl, jX7_shear, by rw [h]; exact tW4 181 (by decide +kernel) rfl, _, rfl, rfl⟩
theorem vL_104 {m : GM} (h : (gy m).cls = RL) : gVir m mX7_store 104 7 1 := ⟨kX7_store, rfl, jX7_store, by rw [h]; exact tW4 192 (by decide +kernel) rfl, _, rfl, rfl⟩
theorem vL_107 {m : GM} (h : (gy m).cls = RL) : gVir m mX7_run 107 7 1 := ⟨kX7_run, rfl, jX7_run, by rw [h]; exact tW4 215 (by decide +kernel) rfl, _, rfl, rfl⟩
theorem vL_110 {m : GM} (h : (gy m).cls = RL) : gVir m mX7_runText 110 7 0 := ⟨kX7_runText, rfl, jX7_runText, by rw [h]; exact tW5 20 (by decide +kernel) rfl, _, rfl, rfl⟩
theorem vL_113 {m : GM} (h : (gy m).cls = RL) : gVir m mX7_undo 113 7 0 := ⟨kX7_undo, rfl, jX7_undo, by rw [h]; exact tW5 27 (by decide +kernel) rfl, _, rfl, rfl⟩
theorem vL_116 {m : GM} (h : (gy m).cls = RL) : gVir m mX7_whyNoMending 116 7 1 := ⟨kX7_whyNoMending, rfl, jX7_whyNoMending, by rw [h]; exact tW5 39 (by decide +kernel) rfl, _, rfl, rfl⟩
theorem vL_119 {m : GM} (h : (gy m).cls = RL) : gVir m mX7_nearestByRings 119 7 1 := ⟨kX7_nearestByRings, rfl, jX7_nearestByRings, by rw [h]; exact tW5 46 (by decide +kernel) rfl, _, rfl, rfl⟩
theorem vL_122 {m : GM} (h : (gy m).cls = RL) : gVir m mX7_nearestByCells 122 7 1 := ⟨kX7_nearestByCells, rfl, jX7_nearestByCells, by rw [h]; exact tW5 68 (by decide +kernel) rfl, _, rfl, rfl⟩
theorem vL_125 {m : GM} (h : (gy m).cls = RL) : gVir m mX7_loopsBy 125 7 0 := ⟨kX7_loopsBy, rfl, jX7_loopsBy, by rw [h]; exact tW5 79 (by decide +kernel) rfl, _, rfl, rfl⟩
theorem vL_128 {m : GM} (h : (gy m).cls = RL) : gVir m mX7_needleBy 128 7 0 := ⟨kX7_needleBy, rfl, jX7_needleBy, by rw [h]; exact tW5 90 (by decide +kernel) rfl, _, rfl, rfl⟩
theorem vL_131 {m : GM} (h : (gy m).cls = RL) : gVir m mX7_yarnBy 131 7 1 := ⟨kX7_yarnBy, rfl, jX7_yarnBy, by rw [h]; exact tW5 97 (by decide +kernel) rfl, _, rfl, rfl⟩
theorem vL_134 {m : GM} (h : (gy m).cls = RL) : gVir m mX7_simulate 134 7 2 := ⟨kX7_simulate, rfl, jX7_simulate, by rw [h]; exact tW5 104 (by decide +kernel) rfl, _, rfl, rfl⟩
theorem vL_138 {m : GM} (h : (gy m).cls = RL) : gVir m mX7_save 138 7 1 := ⟨kX7_save, rfl, jX7_save, by rw [h]; exact tW5 117 (by decide +kernel) rfl, _, rfl, rfl⟩
theorem vL_141 {m : GM} (h : (gy m).cls = RL) : gVir m mX7_restore 141 7 1 := ⟨kX7_restore, rfl, jX7_restore, by rw [h]; exact tW5 128 (by decide +kernel) rfl, _, rfl, rfl⟩
theorem vL_153 {m : GM} (h : (gy m).cls = RL) : gVir m mX8_append 153 8 1 := ⟨kX8_append, rfl, jX8_append, by rw [h]; exact tW5 204 (by decide +kernel) rfl, _, rfl, rfl⟩
theorem vL_154 {m : GM} (h : (gy m).cls = RL) : gVir m mX8_thrown 154 8 0 := ⟨kX8_thrown, rfl, jX8_thrown, by rw [h]; exact tW5 200 (by decide +kernel) rfl, _, rfl, rfl⟩
theorem vL_157 {m : GM} (h : (gy m).cls = RL) : gVir m mX7_clearText 157 7 0 := ⟨kX7_clearText, rfl, jX7_clearText, by rw [h]; exact tW1 218 (by decide +kernel) rfl, _, rfl, rfl⟩
theorem vL_160 {m : GM} (h : (gy m).cls = RL) : gVir m mX8_clearText 160 8 0 := ⟨kX8_clearText, rfl, jX8_clearText, by rw [h]; exact tW5 216 (by decide +kernel) rfl, _, rfl, rfl⟩
theorem vL_161 {m : GM} (h : (gy m).cls = RL) : gVir m mX7_errorPosition 161 7 0 := ⟨kX7_errorPosition, rfl, jX7_errorPosition, by rw [h]; exact tW1 222 (by decide +kernel) rfl, _, rfl, rfl⟩
theorem vL_164 {m : GM} (h : (gy m).cls = RL) : gVir m mX8_errorPosition 164 8 0 := ⟨kX8_errorPosition, rfl, jX8_errorPosition, by rw [h]; exact tW5 220 (by decide +kernel) rfl, _, rfl, rfl⟩
theorem vL_167 {m : GM} (h : (gy m).cls = RL) : gVir m mX8_planOf 167 8 1 := ⟨kX8_planOf, rfl, jX8_planOf, by rw [h]; exact tW6 10 (by decide +kernel) rfl, _, rfl, rfl⟩
theorem vL_170 {m : GM} (h : (gy m).cls = RL) : gVir m mX8_loopOf 170 8 1 := ⟨kX8_loopOf, rfl, jX8_loopOf, by rw [h]; exact tW6 22 (by decide +kernel) rfl, _, rfl, rfl⟩
theorem vL_173 {m : GM} (h : (gy m).cls = RL) : gVir m mX8_heightOf 173 8 1 := ⟨kX8_heightOf, rfl, jX8_heightOf, by rw [h]; exact tW6 30 (by decide +kernel) rfl, _, rfl, rfl⟩
theorem vL_176 {m : GM} (h : (gy m).cls = RL) : gVir m mX8_isSkipped 176 8 1 := ⟨kX8_isSkipped, rfl, jX8_isSkipped, by rw [h]; exact tW6 34 (by decide +kernel) rfl, _, rfl, rfl⟩
theorem vL_177 {m : GM} (h : (gy m).cls = RL) : gVir m mX7_right 177 7 0 := ⟨kX7_right, rfl, jX7_right, by rw [h]; exact tW1 239 (by decide +kernel) rfl, _, rfl, rfl⟩
theorem vL_180 {m : GM} (h : (gy m).cls = RL) : gVir m mX8_right 180 8 0 := ⟨kX8_right, rfl, jX8_right, by rw [h]; exact tW6 38 (by decide +kernel) rfl, _, rfl, rfl⟩
theorem vL_181 {m : GM} (h : (gy m).cls = RL) : gVir m mX7_missing 181 7 0 := ⟨kX7_missing, rfl, jX7_missing, by rw [h]; exact tW2 7 (by decide +kernel) rfl, _, rfl, rfl⟩
theorem vL_184 {m : GM} (h : (gy m).cls = RL) : gVir m mX8_missing 184 8 0 := ⟨kX8_missing, rfl, jX8_missing, by rw [h]; exact tW6 42 (by decide +kernel) rfl, _, rfl, rfl⟩
theorem vL_185 {m : GM} (h : (gy m).cls = RL) : gVir m mX7_wrong 185 7 0 := ⟨kX7_wrong, rfl, jX7_wrong, by rw [h]; exact tW2 27 (by decide +kernel) rfl, _, rfl, rfl⟩
theorem vL_188 {m : GM} (h : (gy m).cls = RL) : gVir m mX8_wrong 188 8 0 := ⟨kX8_wrong, rfl, jX8_wrong, by rw [h]; exact tW6 49 (by decide +kernel) rfl, _, rfl, rfl⟩
theorem vL_189 {m : GM} (h : (gy m).cls = RL) : gVir m mX7_skipped 189 7 0 := ⟨kX7_skipped, rfl, jX7_skipped, by rw [h]; exact tW2 35 (by decide +kernel) rfl, _, rfl, rfl⟩
theorem vL_192 {m : GM} (h : (gy m).cls = RL) : gVir m mX8_skipped 192 8 0 := ⟨kX8_skipped, rfl, jX8_skipped, by rw [h]; exact tW6 53 (by decide +kernel) rfl, _, rfl, rfl⟩
theorem vL_195 {m : GM} (h : (gy m).cls = RL) : gVir m mX8_areasBySpreading 195 8 1 := ⟨kX8_areasBySpreading, rfl, jX8_areasBySpreading, by rw [h]; exact tW6 60 (by decide +kernel) rfl, _, rfl, rfl⟩
theorem vL_198 {m : GM} (h : (gy m).cls = RL) : gVir m mX8_areasByJoining 198 8 1 := ⟨kX8_areasByJoining, rfl, jX8_areasByJoining, by rw [h]; exact tW6 80 (by decide +kernel) rfl, _, rfl, rfl⟩
theorem vL_199 {m : GM} (h : (gy m).cls = RL) : gVir m mX7_density 199 7 0 := ⟨kX7_density, rfl, jX7_density, by rw [h]; exact tW2 43 (by decide +kernel) rfl, _, rfl, rfl⟩
theorem vL_203 {m : GM} (h : (gy m).cls = RL) : gVir m mX8_density 203 8 0 := ⟨kX8_density, rfl, jX8_density, by rw [h]; exact tW6 84 (by decide +kernel) rfl, _, rfl, rfl⟩
theorem vL_204 {m : GM} (h : (gy m).cls = RL) : gVir m mX7_meanHeight 204 7 0 := ⟨kX7_meanHeight, rfl, jX7_meanHeight, by rw [h]; exact tW2 48 (by decide +kernel) rfl, _, rfl, rfl⟩
theorem vL_208 {m : GM} (h : (gy m).cls = RL) : gVir m mX8_meanHeight 208 8 0 := ⟨kX8_meanHeight, rfl, jX8_meanHeight, by rw [h]; exact tW6 92 (by decide +kernel) rfl, _, rfl, rfl⟩
theorem vL_209 {m : GM} (h : (gy m).cls = RL) : gVir m mX7_needle 209 7 0 := ⟨kX7_needle, rfl, jX7_needle, by rw [h]; exact tW2 56 (by decide +kernel) rfl, _, rfl, rfl⟩
theorem vL_212 {m : GM} (h : (gy m).cls = RL) : gVir m mX8_needle 212 8 0 := ⟨kX8_needle, rfl, jX8_needle, by rw [h]; exact tW6 96 (by decide +kernel) rfl, _, rfl, rfl⟩
theorem vL_213 {m : GM} (h : (gy m).cls = RL) : gVir m mX7_heading 213 7 0 := ⟨kX7_heading, rfl, jX7_heading, by rw [h]; exact tW2 60 (by decide +kernel) rfl, _, rfl, rfl⟩
theorem vL_216 {m : GM} (h : (gy m).cls = RL) : gVir m mX8_heading 216 8 0 := ⟨kX8_heading, rfl, jX8_heading, by rw [h]; exact tW6 104 (by decide +kernel) rfl, _, rfl, rfl⟩
theorem vL_217 {m : GM} (h : (gy m).cls = RL) : gVir m mX7_threaded 217 7 0 := ⟨kX7_threaded, rfl, jX7_threaded, by rw [h]; exact tW2 64 (by decide +kernel) rfl, _, rfl, rfl⟩
theorem vL_220 {m : GM} (h : (gy m).cls = RL) : gVir m mX8_threaded 220 8 0 := ⟨kX8_threaded, rfl, jX8_threaded, by rw [h]; exact tW6 108 (by decide +kernel) rfl, _, rfl, rfl⟩
theorem vL_221 {m : GM} (h : (gy m).cls = RL) : gVir m mX7_height 221 7 0 := ⟨kX7_height, rfl, jX7_height, by rw [h]; exact tW2 68 (by decide +kernel) rfl, _, rfl, rfl⟩
theorem vL_224 {m : GM} (h : (gy m).cls = RL) : gVir m mX8_height 224 8 0 := ⟨kX8_height, rfl, jX8_height, by rw [h]; exact tW6 112 (by decide +kernel) rfl, _, rfl, rfl⟩
theorem vL_225 {m : GM} (h : (gy m).cls = RL) : gVir m mX7_tension 225 7 0 := ⟨kX7_tension, rfl, jX7_tension, by rw [h]; exact tW2 72 (by decide +kernel) rfl, _, rfl, rfl⟩
theorem vL_228 {m : GM} (h : (gy m).cls = RL) : gVir m mX8_tension 228 8 0 := ⟨kX8_tension, rfl, jX8_tension, by rw [h]; exact tW6 116 (by decide +kernel) rfl, _, rfl, rfl⟩
theorem vL_229 {m : GM} (h : (gy m).cls = RL) : gVir m mX7_canGo 229 7 0 := ⟨kX7_canGo, rfl, jX7_canGo, by rw [h]; exact tW2 76 (by decide +kernel) rfl, _, rfl, rfl⟩
theorem vL_233 {m : GM} (h : (gy m).cls = RL) : gVir m mX8_canGo 233 8 0 := ⟨kX8_canGo, rfl, jX8_canGo, by rw [h]; exact tW6 120 (by decide +kernel) rfl, _, rfl, rfl⟩
theorem vL_234 {m : GM} (h : (gy m).cls = RL) : gVir m mX7_wouldSkip 234 7 0 := ⟨kX7_wouldSkip, rfl, jX7_wouldSkip, by rw [h]; exact tW2 83 (by decide +kernel) rfl, _, rfl, rfl⟩
theorem vL_237 {m : GM} (h : (gy m).cls = RL) : gVir m mX8_wouldSkip 237 8 0 := ⟨kX8_wouldSkip, rfl, jX8_wouldSkip, by rw [h]; exact tW6 124 (by decide +kernel) rfl, _, rfl, rfl⟩
theorem vL_240 {m : GM} (h : (gy m).cls = RL) : gVir m mX8_coneOf 240 8 1 := ⟨kX8_coneOf, rfl, jX8_coneOf, by rw [h]; exact tW6 128 (by decide +kernel) rfl, _, rfl, rfl⟩
theorem vL_243 {m : GM} (h : (gy m).cls = RL) : gVir m mX8_drawnByCone 243 8 1 := ⟨kX8_drawnByCone, rfl, jX8_drawnByCone, by rw [h]; exact tW6 135 (by decide +kernel) rfl, _, rfl, rfl⟩
theorem vL_246 {m : GM} (h : (gy m).cls = RL) : gVir m mX8_drawnByRug 246 8 1 := ⟨kX8_drawnByRug, rfl, jX8_drawnByRug, by rw [h]; exact tW6 142 (by decide +kernel) rfl, _, rfl, rfl⟩
theorem vL_249 {m : GM} (h : (gy m).cls = RL) : gVir m mX8_wasteOf 249 8 1 := ⟨kX8_wasteOf, rfl, jX8_wasteOf, by rw [h]; exact tW6 146 (by decide +kernel) rfl, _, rfl, rfl⟩
theorem vL_252 {m : GM} (h : (gy m).cls = RL) : gVir m mX8_neededFor 252 8 1 := ⟨kX8_neededFor, rfl, jX8_neededFor, by rw [h]; exact tW6 150 (by decide +kernel) rfl, _, rfl, rfl⟩
theorem vL_255 {m : GM} (h : (gy m).cls = RL) : gVir m mX8_untilKnot 255 8 1 := ⟨kX8_untilKnot, rfl, jX8_untilKnot, by rw [h]; exact tW6 157 (by decide +kernel) rfl, _, rfl, rfl⟩
theorem vL_256 {m : GM} (h : (gy m).cls = RL) : gVir m mX7_knots 256 7 0 := ⟨kX7_knots, rfl, jX7_knots, by rw [h]; exact tW2 91 (by decide +kernel) rfl, _, rfl, rfl⟩
theorem vL_259 {m : GM} (h : (gy m).cls = RL) : gVir m mX8_knots 259 8 0 := ⟨kX8_knots, rfl, jX8_knots, by rw [h]; exact tW6 161 (by decide +kernel) rfl, _, rfl, rfl⟩
theorem vL_262 {m : GM} (h : (gy m).cls = RL) : gVir m mX8_motifLength 262 8 1 := ⟨kX8_motifLength, rfl, jX8_motifLength, by rw [h]; exact tW6 165 (by decide +kernel) rfl, _, rfl, rfl⟩
theorem vL_266 {m : GM} (h : (gy m).cls = RL) : gVir m mX8_motifSign 266 8 2 := ⟨kX8_motifSign, rfl, jX8_motifSign, by rw [h]; exact tW6 173 (by decide +kernel) rfl, _, rfl, rfl⟩
theorem vL_269 {m : GM} (h : (gy m).cls = RL) : gVir m mX8_setPlan 269 8 2 := ⟨kX8_setPlan, rfl, jX8_setPlan, by rw [h]; exact tW6 177 (by decide +kernel) rfl, _, rfl, rfl⟩
theorem vL_273 {m : GM} (h : (gy m).cls = RL) : gVir m mX8_fillPlan 273 8 3 := ⟨kX8_fillPlan, rfl, jX8_fillPlan, by rw [h]; exact tW6 190 (by decide +kernel) rfl, _, rfl, rfl⟩
theorem vL_276 {m : GM} (h : (gy m).cls = RL) : gVir m mX8_thread 276 8 1 := ⟨kX8_thread, rfl, jX8_thread, by rw [h]; exact tW6 194 (by decide +kernel) rfl, _, rfl, rfl⟩
theorem vL_280 {m : GM} (h : (gy m).cls = RL) : gVir m mX8_cut 280 8 0 := ⟨kX8_cut, rfl, jX8_cut, by rw [h]; exact tW6 207 (by decide +kernel) rfl, _, rfl, rfl⟩
theorem vL_283 {m : GM} (h : (gy m).cls = RL) : gVir m mX8_sew 283 8 1 := ⟨kX8_sew, rfl, jX8_sew, by rw [h]; exact tW6 211 (by decide +kernel) rfl, _, rfl, rfl⟩
theorem vL_286 {m : GM} (h : (gy m).cls = RL) : gVir m mX8_jump 286 8 1 := ⟨kX8_jump, rfl, jX8_jump, by rw [h]; exact tW6 228 (by decide +kernel) rfl, _, rfl, rfl⟩
theorem vL_287 {m : GM} (h : (gy m).cls = RL) : gVir m mX7_turnLeft 287 7 0 := ⟨kX7_turnLeft, rfl, jX7_turnLeft, by rw [h]; exact tW2 95 (by decide +kernel) rfl, _, rfl, rfl⟩
theorem vL_290 {m : GM} (h : (gy m).cls = RL) : gVir m mX8_turnLeft 290 8 0 := ⟨kX8_turnLeft, rfl, jX8_turnLeft, by rw [h]; exact tW6 235 (by decide +kernel) rfl, _, rfl, rfl⟩
theorem vL_291 {m : GM} (h : (gy m).cls = RL) : gVir m mX7_turnRight 291 7 0 := ⟨kX7_turnRight, rfl, jX7_turnRight, by rw [h]; exact tW2 137 (by decide +kernel) rfl, _, rfl, rfl⟩
theorem vL_294 {m : GM} (h : (gy m).cls = RL) : gVir m mX8_turnRight 294 8 0 := ⟨kX8_turnRight, rfl, jX8_turnRight, by rw [h]; exact tW7 2 (by decide +kernel) rfl, _, rfl, rfl⟩
theorem vL_297 {m : GM} (h : (gy m).cls = RL) : gVir m mX8_ease 297 8 0 := ⟨kX8_ease, rfl, jX8_ease, by rw [h]; exact tW7 6 (by decide +kernel) rfl, _, rfl, rfl⟩
theorem vL_300 {m : GM} (h : (gy m).cls = RL) : gVir m mX8_setHeight 300 8 1 := ⟨kX8_setHeight, rfl, jX8_setHeight, by rw [h]; exact tW7 13 (by decide +kernel) rfl, _, rfl, rfl⟩
theorem vL_303 {m : GM} (h : (gy m).cls = RL) : gVir m mX8_place 303 8 2 := ⟨kX8_place, rfl, jX8_place, by rw [h]; exact tW7 18 (by decide +kernel) rfl, _, rfl, rfl⟩
theorem vL_306 {m : GM} (h : (gy m).cls = RL) : gVir m mX8_wind 306 8 2 := ⟨kX8_wind, rfl, jX8_wind, by rw [h]; exact tW7 22 (by decide +kernel) rfl, _, rfl, rfl⟩
theorem vL_309 {m : GM} (h : (gy m).cls = RL) : gVir m mX8_mend 309 8 1 := ⟨kX8_mend, rfl, jX8_mend, by rw [h]; exact tW7 27 (by decide +kernel) rfl, _, rfl, rfl⟩
theorem vL_312 {m : GM} (h : (gy m).cls = RL) : gVir m mX8_unpick 312 8 1 := ⟨kX8_unpick, rfl, jX8_unpick, by rw [h]; exact tW7 34 (by decide +kernel) rfl, _, rfl, rfl⟩
theorem vL_315 {m : GM} (h : (gy m).cls = RL) : gVir m mX8_shear 315 8 1 := ⟨kX8_shear, rfl, jX8_shear, by rw [h]; exact tW7 41 (by decide +kernel) rfl, _, rfl, rfl⟩
theorem vL_318 {m : GM} (h : (gy m).cls = RL) : gVir m mX8_store 318 8 1 := ⟨kX8_store, rfl, jX8_store, by rw [h]; exact tW7 48 (by decide +kernel) rfl, _, rfl, rfl⟩
theorem vL_321 {m : GM} (h : (gy m).cls = RL) : gVir m mX8_run 321 8 1 := ⟨kX8_run, rfl, jX8_run, by rw [h]; exact tW7 52 (by decide +kernel) rfl, _, rfl, rfl⟩
theorem vL_324 {m : GM} (h : (gy m).cls = RL) : gVir m mX8_runText 324 8 0 := ⟨kX8_runText, rfl, jX8_runText, by rw [h]; exact tW7 76 (by decide +kernel) rfl, _, rfl, rfl⟩
theorem vL_327 {m : GM} (h : (gy m).cls = RL) : gVir m mX8_undo 327 8 0 := ⟨kX8_undo, rfl, jX8_undo, by rw [h]; exact tW7 80 (by decide +kernel) rfl, _, rfl, rfl⟩
theorem vL_328 {m : GM} (h : (gy m).cls = RL) : gVir m mX7_whyNoStitch 328 7 0 := ⟨kX7_whyNoStitch, rfl, jX7_whyNoStitch, by rw [h]; exact tW2 141 (by decide +kernel) rfl, _, rfl, rfl⟩
theorem vL_331 {m : GM} (h : (gy m).cls = RL) : gVir m mX8_whyNoStitch 331 8 0 := ⟨kX8_whyNoStitch, rfl, jX8_whyNoStitch, by rw [h]; exact tW7 84 (by decide +kernel) rfl, _, rfl, rfl⟩
theorem vL_334 {m : GM} (h : (gy m).cls = RL) : gVir m mX8_whyNoMending 334 8 1 := ⟨kX8_whyNoMending, rfl, jX8_whyNoMending, by rw [h]; exact tW7 88 (by decide +kernel) rfl, _, rfl, rfl⟩
theorem vL_335 {m : GM} (h : (gy m).cls = RL) : gVir m mX7_couldSew 335 7 0 := ⟨kX7_couldSew, rfl, jX7_couldSew, by rw [h]; exact tW2 157 (by decide +kernel) rfl, _, rfl, rfl⟩
theorem vL_338 {m : GM} (h : (gy m).cls = RL) : gVir m mX8_couldSew 338 8 0 := ⟨kX8_couldSew, rfl, jX8_couldSew, by rw [h]; exact tW7 92 (by decide +kernel) rfl, _, rfl, rfl⟩
theorem vL_341 {m : GM} (h : (gy m).cls = RL) : gVir m mX8_nearestByRings 341 8 1 := ⟨kX8_nearestByRings, rfl, jX8_nearestByRings, by rw [h]; exact tW7 99 (by decide +kernel) rfl, _, rfl, rfl⟩
theorem vL_344 {m : GM} (h : (gy m).cls = RL) : gVir m mX8_nearestByCells 344 8 1 := ⟨kX8_nearestByCells, rfl, jX8_nearestByCells, by rw [h]; exact tW7 107 (by decide +kernel) rfl, _, rfl, rfl⟩
theorem vL_347 {m : GM} (h : (gy m).cls = RL) : gVir m mX8_loopsBy 347 8 0 := ⟨kX8_loopsBy, rfl, jX8_loopsBy, by rw [h]; exact tW7 111 (by decide +kernel) rfl, _, rfl, rfl⟩
theorem vL_350 {m : GM} (h : (gy m).cls = RL) : gVir m mX8_needleBy 350 8 0 := ⟨kX8_needleBy, rfl, jX8_needleBy, by rw [h]; exact tW7 119 (by decide +kernel) rfl, _, rfl, rfl⟩
theorem vL_353 {m : GM} (h : (gy m).cls = RL) : gVir m mX8_yarnBy 353 8 1 := ⟨kX8_yarnBy, rfl, jX8_yarnBy, by rw [h]; exact tW7 123 (by decide +kernel) rfl, _, rfl, rfl⟩
theorem vL_359 {m : GM} (h : (gy m).cls = RL) : gVir m mX8_simulate 359 8 2 := ⟨kX8_simulate, rfl, jX8_simulate, by rw [h]; exact tW7 127 (by decide +kernel) rfl, _, rfl, rfl⟩
theorem vL_362 {m : GM} (h : (gy m).cls = RL) : gVir m mX8_save 362 8 1 := ⟨kX8_save, rfl, jX8_save, by rw [h]; exact tW7 138 (by decide +kernel) rfl, _, rfl, rfl⟩
theorem vL_365 {m : GM} (h : (gy m).cls = RL) : gVir m mX8_restore 365 8 1 := ⟨kX8_restore, rfl, jX8_restore, by rw [h]; exact tW7 142 (by decide +kernel) rfl, _, rfl, rfl⟩
theorem vX8_108 {m : GM} (h : (gy m).cls = RX8) : gVir m mX8_sign 108 8 3 := ⟨kX8_sign, rfl, jX8_sign, by rw [h]; exact tW7 68 (by decide +kernel) rfl, _, rfl, rfl⟩
theorem vX8_117 {m : GM} (h : (gy m).cls = RX8) : gVir m mX8_fails 117 8 1 := ⟨kX8_fails, rfl, jX8_fails, by rw [h]; exact tW7 72 (by decide +kernel) rfl, _, rfl, rfl⟩
theorem vX8_130 {m : GM} (h : (gy m).cls = RX8) : gVir m mX8_push 130 8 4 := ⟨kX8_push, rfl, jX8_push, by rw [h]; exact tW7 60 (by decide +kernel) rfl, _, rfl, rfl⟩
theorem vX8_134 {m : GM} (h : (gy m).cls = RX8) : gVir m mX8_order 134 8 1 := ⟨kX8_order, rfl, jX8_order, by rw [h]; exact tW7 64 (by decide +kernel) rfl, _, rfl, rfl⟩
theorem vX8_141 {m : GM} (h : (gy m).cls = RX8) : gVir m mX8_remember 141 8 0 := ⟨kX8_remember, rfl, jX8_remember, by rw [h]; exact tW6 186 (by decide +kernel) rfl, _, rfl, rfl⟩
theorem vX8_149 {m : GM} (h : (gy m).cls = RX8) : gVir m mX8_refused 149 8 1 := ⟨kX8_refused, rfl, jX8_refused, by rw [h]; exact tW5 212 (by decide +kernel) rfl, _, rfl, rfl⟩
theorem vX8_160 {m : GM} (h : (gy m).cls = RX8) : gVir m mX8_here 160 8 0 := ⟨kX8_here, rfl, jX8_here, by rw [h]; exact tW5 232 (by decide +kernel) rfl, _, rfl, rfl⟩
theorem vX8_164 {m : GM} (h : (gy m).cls = RX8) : gVir m mX8_take 164 8 1 := ⟨kX8_take, rfl, jX8_take, by rw [h]; exact tW6 2 (by decide +kernel) rfl, _, rfl, rfl⟩
theorem vX8_167 {m : GM} (h : (gy m).cls = RX8) : gVir m mX8_digit 167 8 2 := ⟨kX8_digit, rfl, jX8_digit, by rw [h]; exact tW6 6 (by decide +kernel) rfl, _, rfl, rfl⟩
theorem vX8_177 {m : GM} (h : (gy m).cls = RX8) : gVir m mX8_readPlain 177 8 0 := ⟨kX8_readPlain, rfl, jX8_readPlain, by rw [h]; exact tW5 238 (by decide +kernel) rfl, _, rfl, rfl⟩
theorem vX8_180 {m : GM} (h : (gy m).cls = RX8) : gVir m mX8_readOrder 180 8 0 := ⟨kX8_readOrder, rfl, jX8_readOrder, by rw [h]; exact tW5 228 (by decide +kernel) rfl, _, rfl, rfl⟩
theorem vX8_183 {m : GM} (h : (gy m).cls = RX8) : gVir m mX8_readAll 183 8 0 := ⟨kX8_readAll, rfl, jX8_readAll, by rw [h]; exact tW5 224 (by decide +kernel) rfl, _, rfl, rfl⟩
theorem vX8_192 {m : GM} (h : (gy m).cls = RX8) : gVir m mX8_noCell 192 8 1 := ⟨kX8_noCell, rfl, jX8_noCell, by rw [h]; exact tW6 14 (by decide +kernel) rfl, _, rfl, rfl⟩
theorem vX8_201 {m : GM} (h : (gy m).cls = RX8) : gVir m mX8_noColour 201 8 1 := ⟨kX8_noColour, rfl, jX8_noColour, by rw [h]; exact tW6 64 (by decide +kernel) rfl, _, rfl, rfl⟩
theorem vX8_204 {m : GM} (h : (gy m).cls = RX8) : gVir m mX8_areas 204 8 1 := ⟨kX8_areas, rfl, jX8_areas, by rw [h]; exact tW6 72 (by decide +kernel) rfl, _, rfl, rfl⟩
theorem vX8_211 {m : GM} (h : (gy m).cls = RX8) : gVir m mX8_tell 211 8 1 := ⟨kX8_tell, rfl, jX8_tell, by rw [h]; exact tW6 100 (by decide +kernel) rfl, _, rfl, rfl⟩
theorem vX8_221 {m : GM} (h : (gy m).cls = RX8) : gVir m mX8_change 221 8 2 := ⟨kX8_change, rfl, jX8_change, by rw [h]; exact tW6 182 (by decide +kernel) rfl, _, rfl, rfl⟩
theorem vX8_239 {m : GM} (h : (gy m).cls = RX8) : gVir m mX8_goRun 239 8 3 := ⟨kX8_goRun, rfl, jX8_goRun, by rw [h]; exact tW7 56 (by decide +kernel) rfl, _, rfl, rfl⟩
theorem vX8_246 {m : GM} (h : (gy m).cls = RX8) : gVir m mX8_nearest 246 8 1 := ⟨kX8_nearest, rfl, jX8_nearest, by rw [h]; exact tW7 103 (by decide +kernel) rfl, _, rfl, rfl⟩
theorem vX8_249 {m : GM} (h : (gy m).cls = RX8) : gVir m mX8_tried 249 8 0 := ⟨kX8_tried, rfl, jX8_tried, by rw [h]; exact tW7 115 (by decide +kernel) rfl, _, rfl, rfl⟩
theorem vX8_259 {m : GM} (h : (gy m).cls = RX8) : gVir m mX8_stir 259 8 1 := ⟨kX8_stir, rfl, jX8_stir, by rw [h]; exact tW7 134 (by decide +kernel) rfl, _, rfl, rfl⟩
theorem gOI : Cond.instanceMethod Lib.objectInit ∈ gW := tW1 24 (by decide +kernel) rfl
theorem gOC : Cond.code Lib.objectInit ⟨#[0xb1]⟩ 1 none ∈ gW := tW1 25 rfl rfl
theorem gA_int : Cond.arrayClass .int ∈ gW := tW1 48 (by decide +kernel) rfl
theorem gA_char : Cond.arrayClass .char ∈ gW := tW1 88 (by decide +kernel) rfl
theorem gA_boolean : Cond.arrayClass .boolean ∈ gW := tW1 195 (by decide +kernel) rfl
theorem gA_long : Cond.arrayClass .long ∈ gW := tW7 147 (by decide +kernel) rfl
abbrev IAE : String := "java/lang/IllegalArgumentException"
theorem gK_IAE : Cond.castable IAE IAE ∈ gO := tO2 217 (by decide +kernel) rfl
abbrev ISE : String := "java/lang/IllegalStateException"
theorem gK_ISE : Cond.castable ISE ISE ∈ gO := tO3 45 (by decide +kernel) rfl
abbrev IOE : String := "java/lang/IndexOutOfBoundsException"
theorem gK_IOE : Cond.castable IOE IOE ∈ gO := tO3 76 (by decide +kernel) rfl
theorem tX7_61 {m : GM} (h : (gy m).cls = RX7) : gTH m 59 61 63 "java/lang/IllegalStateException" "the text is full" := by
  unfold gTH
  rw [h]
  refine ⟨tW3 43 (by decide +kernel) rfl, tW1 14 (by decide +kernel) rfl, tSi (tt3 52 (by decide +kernel)), fun w hw => ?_, by decide, by decide +kernel⟩
  have h1 := (by decide +kernel : ∀ w ∈ vx_atS RX7 63 "java/lang/IllegalStateException" gXn, w ∈ tables_1 ∧ (goodWord w || gothr w) = true) w hw
  rcases Bool.or_eq_true_iff.mp h1.2 with h2 | h2
  · exact Or.inl (tWi h1.1 h2)
  · exact Or.inr (tOi h1.1 h2)
theorem tX7_208 {m : GM} (h : (gy m).cls = RX7) : gTH m 59 208 63 "java/lang/IllegalStateException" "the cone has too little for an end" := by
  unfold gTH
  rw [h]
  refine ⟨tW3 43 (by decide +kernel) rfl, tW1 14 (by decide +kernel) rfl, tSi (tt4 55 (by decide +kernel)), fun w hw => ?_, by decide, by decide +kernel⟩
  have h1 := (by decide +kernel : ∀ w ∈ vx_atS RX7 63 "java/lang/IllegalStateException" gXn, w ∈ tables_1 ∧ (goodWord w || gothr w) = true) w hw
  rcases Bool.or_eq_true_iff.mp h1.2 with h2 | h2
  · exact Or.inl (tWi h1.1 h2)
  · exact Or.inr (tOi h1.1 h2)
theorem tX7_222 {m : GM} (h : (gy m).cls = RX7) : gTH m 59 222 63 "java/lang/IllegalStateException" "no stitch can be done" := by
  unfold gTH
  rw [h]
  refine ⟨tW3 43 (by decide +kernel) rfl, tW1 14 (by decide +kernel) rfl, tSi (tt4 89 (by decide +kernel)), fun w hw => ?_, by decide, by decide +kernel⟩
  have h1 := (by decide +kernel : ∀ w ∈ vx_atS RX7 63 "java/lang/IllegalStateException" gXn, w ∈ tables_1 ∧ (goodWord w || gothr w) = true) w hw
  rcases Bool.or_eq_true_iff.mp h1.2 with h2 | h2
  · exact Or.inl (tWi h1.1 h2)
  · exact Or.inr (tOi h1.1 h2)
theorem tX7_236 {m : GM} (h : (gy m).cls = RX7) : gTH m 59 236 63 "java/lang/IllegalStateException" "the needle is threaded" := by
  unfold gTH
  rw [h]
  refine ⟨tW3 43 (by decide +kernel) rfl, tW1 14 (by decide +kernel) rfl, tSi (tt4 130 (by decide +kernel)), fun w hw => ?_, by decide, by decide +kernel⟩
  have h1 := (by decide +kernel : ∀ w ∈ vx_atS RX7 63 "java/lang/IllegalStateException" gXn, w ∈ tables_1 ∧ (goodWord w || gothr w) = true) w hw
  rcases Bool.or_eq_true_iff.mp h1.2 with h2 | h2
  · exact Or.inl (tWi h1.1 h2)
  · exact Or.inr (tOi h1.1 h2)
theorem tX7_238 {m : GM} (h : (gy m).cls = RX7) : gTH m 59 238 63 "java/lang/IllegalStateException" "the cone cannot hold so much" := by
  unfold gTH
  rw [h]
  refine ⟨tW3 43 (by decide +kernel) rfl, tW1 14 (by decide +kernel) rfl, tSi (tt4 138 (by decide +kernel)), fun w hw => ?_, by decide, by decide +kernel⟩
  have h1 := (by decide +kernel : ∀ w ∈ vx_atS RX7 63 "java/lang/IllegalStateException" gXn, w ∈ tables_1 ∧ (goodWord w || gothr w) = true) w hw
  rcases Bool.or_eq_true_iff.mp h1.2 with h2 | h2
  · exact Or.inl (tWi h1.1 h2)
  · exact Or.inr (tOi h1.1 h2)
theorem tX7_246 {m : GM} (h : (gy m).cls = RX7) : gTH m 59 246 63 "java/lang/IllegalStateException" "the cell cannot be mended" := by
  unfold gTH
  rw [h]
  refine ⟨tW3 43 (by decide +kernel) rfl, tW1 14 (by decide +kernel) rfl, tSi (tt4 156 (by decide +kernel)), fun w hw => ?_, by decide, by decide +kernel⟩
  have h1 := (by decide +kernel : ∀ w ∈ vx_atS RX7 63 "java/lang/IllegalStateException" gXn, w ∈ tables_1 ∧ (goodWord w || gothr w) = true) w hw
  rcases Bool.or_eq_true_iff.mp h1.2 with h2 | h2
  · exact Or.inl (tWi h1.1 h2)
  · exact Or.inr (tOi h1.1 h2)
theorem tX7_251 {m : GM} (h : (gy m).cls = RX7) : gTH m 59 251 63 "java/lang/IllegalStateException" "the cell has no loop" := by
  unfold gTH
  rw [h]
  refine ⟨tW3 43 (by decide +kernel) rfl, tW1 14 (by decide +kernel) rfl, tSi (tt4 168 (by decide +kernel)), fun w hw => ?_, by decide, by decide +kernel⟩
  have h1 := (by decide +kernel : ∀ w ∈ vx_atS RX7 63 "java/lang/IllegalStateException" gXn, w ∈ tables_1 ∧ (goodWord w || gothr w) = true) w hw
  rcases Bool.or_eq_true_iff.mp h1.2 with h2 | h2
  · exact Or.inl (tWi h1.1 h2)
  · exact Or.inr (tOi h1.1 h2)
theorem tX7_265 {m : GM} (h : (gy m).cls = RX7) : gTH m 59 265 63 "java/lang/IllegalStateException" "a motif in the text has not a lower number" := by
  unfold gTH
  rw [h]
  refine ⟨tW3 43 (by decide +kernel) rfl, tW1 14 (by decide +kernel) rfl, tSi (tt4 210 (by decide +kernel)), fun w hw => ?_, by decide, by decide +kernel⟩
  have h1 := (by decide +kernel : ∀ w ∈ vx_atS RX7 63 "java/lang/IllegalStateException" gXn, w ∈ tables_1 ∧ (goodWord w || gothr w) = true) w hw
  rcases Bool.or_eq_true_iff.mp h1.2 with h2 | h2
  · exact Or.inl (tWi h1.1 h2)
  · exact Or.inr (tOi h1.1 h2)
theorem tX7_271 {m : GM} (h : (gy m).cls = RX7) : gTH m 59 271 63 "java/lang/IllegalStateException" "no motif is stored with this number" := by
  unfold gTH
  rw [h]
  refine ⟨tW3 43 (by decide +kernel) rfl, tW1 14 (by decide +kernel) rfl, tSi (tt4 219 (by decide +kernel)), fun w hw => ?_, by decide, by decide +kernel⟩
  have h1 := (by decide +kernel : ∀ w ∈ vx_atS RX7 63 "java/lang/IllegalStateException" gXn, w ∈ tables_1 ∧ (goodWord w || gothr w) = true) w hw
  rcases Bool.or_eq_true_iff.mp h1.2 with h2 | h2
  · exact Or.inl (tWi h1.1 h2)
  · exact Or.inr (tOi h1.1 h2)
theorem tX7_280 {m : GM} (h : (gy m).cls = RX7) : gTH m 59 280 63 "java/lang/IllegalStateException" "no state is remembered" := by
  unfold gTH
  rw [h]
  refine ⟨tW3 43 (by decide +kernel) rfl, tW1 14 (by decide +kernel) rfl, tSi (tt5 31 (by decide +kernel)), fun w hw => ?_, by decide, by decide +kernel⟩
  have h1 := (by decide +kernel : ∀ w ∈ vx_atS RX7 63 "java/lang/IllegalStateException" gXn, w ∈ tables_1 ∧ (goodWord w || gothr w) = true) w hw
  rcases Bool.or_eq_true_iff.mp h1.2 with h2 | h2
  · exact Or.inl (tWi h1.1 h2)
  · exact Or.inr (tOi h1.1 h2)
theorem tX7_307 {m : GM} (h : (gy m).cls = RX7) : gTH m 59 307 63 "java/lang/IllegalStateException" "nothing has been saved in the slot" := by
  unfold gTH
  rw [h]
  refine ⟨tW3 43 (by decide +kernel) rfl, tW1 14 (by decide +kernel) rfl, tSi (tt5 132 (by decide +kernel)), fun w hw => ?_, by decide, by decide +kernel⟩
  have h1 := (by decide +kernel : ∀ w ∈ vx_atS RX7 63 "java/lang/IllegalStateException" gXn, w ∈ tables_1 ∧ (goodWord w || gothr w) = true) w hw
  rcases Bool.or_eq_true_iff.mp h1.2 with h2 | h2
  · exact Or.inl (tWi h1.1 h2)
  · exact Or.inr (tOi h1.1 h2)
theorem tX7_309 {m : GM} (h : (gy m).cls = RX7) : gTH m 59 309 63 "java/lang/IllegalStateException" "the needle is not threaded" := by
  unfold gTH
  rw [h]
  refine ⟨tW3 43 (by decide +kernel) rfl, tW1 14 (by decide +kernel) rfl, tSi (tt4 80 (by decide +kernel)), fun w hw => ?_, by decide, by decide +kernel⟩
  have h1 := (by decide +kernel : ∀ w ∈ vx_atS RX7 63 "java/lang/IllegalStateException" gXn, w ∈ tables_1 ∧ (goodWord w || gothr w) = true) w hw
  rcases Bool.or_eq_true_iff.mp h1.2 with h2 | h2
  · exact Or.inl (tWi h1.1 h2)
  · exact Or.inr (tOi h1.1 h2)
theorem tX7_311 {m : GM} (h : (gy m).cls = RX7) : gTH m 59 311 63 "java/lang/IllegalStateException" "the text is not a motif" := by
  unfold gTH
  rw [h]
  refine ⟨tW3 43 (by decide +kernel) rfl, tW1 14 (by decide +kernel) rfl, tSi (tt4 200 (by decide +kernel)), fun w hw => ?_, by decide, by decide +kernel⟩
  have h1 := (by decide +kernel : ∀ w ∈ vx_atS RX7 63 "java/lang/IllegalStateException" gXn, w ∈ tables_1 ∧ (goodWord w || gothr w) = true) w hw
  rcases Bool.or_eq_true_iff.mp h1.2 with h2 | h2
  · exact Or.inl (tWi h1.1 h2)
  · exact Or.inr (tOi h1.1 h2)
theorem tX7_186 {m : GM} (h : (gy m).cls = RX7) : gTH m 184 186 188 "java/lang/IndexOutOfBoundsException" "the motif has no such place" := by
  unfold gTH
  rw [h]
  refine ⟨tW3 74 (by decide +kernel) rfl, tW1 15 (by decide +kernel) rfl, tSi (tt4 9 (by decide +kernel)), fun w hw => ?_, by decide, by decide +kernel⟩
  have h1 := (by decide +kernel : ∀ w ∈ vx_atS RX7 188 "java/lang/IndexOutOfBoundsException" gXn, w ∈ tables_1 ∧ (goodWord w || gothr w) = true) w hw
  rcases Bool.or_eq_true_iff.mp h1.2 with h2 | h2
  · exact Or.inl (tWi h1.1 h2)
  · exact Or.inr (tOi h1.1 h2)
theorem tX7_313 {m : GM} (h : (gy m).cls = RX7) : gTH m 184 313 188 "java/lang/IndexOutOfBoundsException" "there is no such cell" := by
  unfold gTH
  rw [h]
  refine ⟨tW3 74 (by decide +kernel) rfl, tW1 15 (by decide +kernel) rfl, tSi (tt3 83 (by decide +kernel)), fun w hw => ?_, by decide, by decide +kernel⟩
  have h1 := (by decide +kernel : ∀ w ∈ vx_atS RX7 188 "java/lang/IndexOutOfBoundsException" gXn, w ∈ tables_1 ∧ (goodWord w || gothr w) = true) w hw
  rcases Bool.or_eq_true_iff.mp h1.2 with h2 | h2
  · exact Or.inl (tWi h1.1 h2)
  · exact Or.inr (tOi h1.1 h2)
theorem tX7_315 {m : GM} (h : (gy m).cls = RX7) : gTH m 184 315 188 "java/lang/IndexOutOfBoundsException" "there is no such colour" := by
  unfold gTH
  rw [h]
  refine ⟨tW3 74 (by decide +kernel) rfl, tW1 15 (by decide +kernel) rfl, tSi (tt3 131 (by decide +kernel)), fun w hw => ?_, by decide, by decide +kernel⟩
  have h1 := (by decide +kernel : ∀ w ∈ vx_atS RX7 188 "java/lang/IndexOutOfBoundsException" gXn, w ∈ tables_1 ∧ (goodWord w || gothr w) = true) w hw
  rcases Bool.or_eq_true_iff.mp h1.2 with h2 | h2
  · exact Or.inl (tWi h1.1 h2)
  · exact Or.inr (tOi h1.1 h2)
theorem tX7_317 {m : GM} (h : (gy m).cls = RX7) : gTH m 184 317 188 "java/lang/IndexOutOfBoundsException" "a motif's number is 0 to 3" := by
  unfold gTH
  rw [h]
  refine ⟨tW3 74 (by decide +kernel) rfl, tW1 15 (by decide +kernel) rfl, tSi (tt3 237 (by decide +kernel)), fun w hw => ?_, by decide, by decide +kernel⟩
  have h1 := (by decide +kernel : ∀ w ∈ vx_atS RX7 188 "java/lang/IndexOutOfBoundsException" gXn, w ∈ tables_1 ∧ (goodWord w || gothr w) = true) w hw
  rcases Bool.or_eq_true_iff.mp h1.2 with h2 | h2
  · exact Or.inl (tWi h1.1 h2)
  · exact Or.inr (tOi h1.1 h2)
theorem tX7_319 {m : GM} (h : (gy m).cls = RX7) : gTH m 184 319 188 "java/lang/IndexOutOfBoundsException" "there is no such save slot" := by
  unfold gTH
  rw [h]
  refine ⟨tW3 74 (by decide +kernel) rfl, tW1 15 (by decide +kernel) rfl, tSi (tt5 124 (by decide +kernel)), fun w hw => ?_, by decide, by decide +kernel⟩
  have h1 := (by decide +kernel : ∀ w ∈ vx_atS RX7 188 "java/lang/IndexOutOfBoundsException" gXn, w ∈ tables_1 ∧ (goodWord w || gothr w) = true) w hw
  rcases Bool.or_eq_true_iff.mp h1.2 with h2 | h2
  · exact Or.inl (tWi h1.1 h2)
  · exact Or.inr (tOi h1.1 h2)
theorem tX7_323 {m : GM} (h : (gy m).cls = RX7) : gTH m 321 323 325 "java/lang/IllegalArgumentException" "an argument is out of its range" := by
  unfold gTH
  rw [h]
  refine ⟨tW2 215 (by decide +kernel) rfl, tW1 13 (by decide +kernel) rfl, tSi (tt3 16 (by decide +kernel)), fun w hw => ?_, by decide, by decide +kernel⟩
  have h1 := (by decide +kernel : ∀ w ∈ vx_atS RX7 325 "java/lang/IllegalArgumentException" gXn, w ∈ tables_1 ∧ (goodWord w || gothr w) = true) w hw
  rcases Bool.or_eq_true_iff.mp h1.2 with h2 | h2
  · exact Or.inl (tWi h1.1 h2)
  · exact Or.inr (tOi h1.1 h2)
