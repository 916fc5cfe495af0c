section P51
variable {M M0 : Hp} {z a b c d e j i n t p q s sp st pb k : Nat} {f : Row} {x y w v od bk lv : Int32} {sc : Nat → Option Nat} {pl gr ti : Row} {g : Nat → Nat} {len : Nat} {T : Nat → Nat → Nat} {Ln : Nat → Nat} {Φ : GR → Hp → Nat → Prop}
theorem RugF.ob (h : RugF M a f) : ∃ R, M a = some (.inr (4, rugL a R)) := by
  obtain ⟨R, ln, sg, hA, -⟩ := h
  exact ⟨R, hA.1⟩
def DoQ (ok : Bool) (M : Hp) (pb a : Nat) (f' : Row) (sc : Nat → Option Nat) (pl gr ti : Row) (k : Nat) (od bk : Int32) (z : Nat) : GR → Hp → Nat → Prop := fun r M' z' => r = .inl (some (.int (bI ok))) ∧ PlAt M' pb sc pl gr ti (nI k) od bk ∧ RugF M' a f' ∧ (∀ q, (q < pb ∨ pb + 5 ≤ q) → (q < a ∨ a + 20 ≤ q) → M' q = M q) ∧ z' = z
theorem DoQ.tr {M1 : Hp} {ok : Bool} {r : GR} {M' : Hp} {z' : Nat} (hO : Out M M1 pb 5) (h : DoQ ok M1 pb a f sc pl gr ti k od bk z r M' z') : DoQ ok M pb a f sc pl gr ti k od bk z r M' z' :=
  ⟨h.1, h.2.1, h.2.2.1, fun q a b => (h.2.2.2.1 q a b).trans (hO q a), h.2.2.2.2⟩
theorem q_do0 {u : Nat} (hA : PlAt M pb sc pl gr ti (nI k) od bk) (hk : k < 5) (hd : pb + 5 ≤ a ∨ a + 20 ≤ pb) (hS : ScriptAt M u len g) (hg : CharsOK g) (hl : len ≤ 120) (hp : p < 120) (hc : sgn len g p = c) (hsig : Runs mX3_signsOf [.int (nI c)] M z (gD (some (.int (nI (oSig c)))) M z)) (hk1 : ∀ M1, PlAt M1 pb sc (upd pl k (nI (p + oSig c))) gr ti (nI k) od bk → Out M M1 pb 5 → WP mX3_doOrder 42 [some (.ref pb), some (.ref a), some (.ref u), some (.int (nI p)), some (.int (nI c)), some (.int (nI (sgn len g (p + 1)) - nI 48)), some (.int (nI 10 * (nI (sgn len g (p + 1)) - nI 48) + (nI (sgn len g (p + 2)) - nI 48)))] [] M1 z 0 0 Φ) : WP mX3_doOrder 0 [some (.ref pb), some (.ref a), some (.ref u), some (.int (nI p)), none, none, none] [] M z 0 0 Φ := by
  refine g_aload_2 dX3_doOrder_0 ?_
  refine g_iload_3 dX3_doOrder_1 ?_
  refine g_v1_1 dX3_doOrder_2 (vX3_45 rfl) rfl hS.1 (Nat.le_of_ble_eq_true rfl) ⟨rfl, rfl⟩ (Nat.le_of_ble_eq_true rfl) (Nat.le_of_ble_eq_true rfl) (c_signAt hS hg hl (by omega)) ?_
  rw [hc]
  refine g_istore_4 rfl dX3_doOrder_5 ?_
  refine g_aload_2 dX3_doOrder_7 ?_
  refine g_iload_3 dX3_doOrder_8 ?_
  refine g_iconst (v := nI 1) dX3_doOrder_9 rfl ?_
  refine g_iaddN dX3_doOrder_10 ?_
  refine g_v1_1 dX3_doOrder_11 (vX3_57 rfl) rfl hS.1 (Nat.le_of_ble_eq_true rfl) ⟨rfl, rfl⟩ (Nat.le_of_ble_eq_true rfl) (Nat.le_of_ble_eq_true rfl) (c_digitAt hS hg hl (by omega)) ?_
  refine g_istore_5 rfl dX3_doOrder_14 ?_
  refine g_bipush (v := nI 10) dX3_doOrder_16 rfl ?_
  refine g_iload_5 dX3_doOrder_18 ?_
  refine g_imul dX3_doOrder_20 ?_
  refine g_aload_2 dX3_doOrder_21 ?_
  refine g_iload_3 dX3_doOrder_22 ?_
  refine g_iconst (v := nI 2) dX3_doOrder_23 rfl ?_
  refine g_iaddN dX3_doOrder_24 ?_
  refine g_v1_1 dX3_doOrder_25 (vX3_57 rfl) rfl hS.1 (Nat.le_of_ble_eq_true rfl) ⟨rfl, rfl⟩ (Nat.le_of_ble_eq_true rfl) (Nat.le_of_ble_eq_true rfl) (c_digitAt hS hg hl (by omega)) ?_
  refine g_iadd dX3_doOrder_28 ?_
  refine g_istore_6 rfl dX3_doOrder_29 ?_
  refine g_aload_0 dX3_doOrder_31 ?_
  refine g_iload_3 dX3_doOrder_32 ?_
  refine g_iload_4 dX3_doOrder_33 ?_
  refine g_s1_1 dX3_doOrder_35 (sX3_61 rfl) rfl (Nat.le_of_ble_eq_true rfl) ⟨rfl, rfl⟩ (Nat.le_of_ble_eq_true rfl) (Nat.le_of_ble_eq_true rfl) (hsig) ?_
  refine g_iaddN dX3_doOrder_38 ?_
  refine g_v1 dX3_doOrder_39 (vX3_65 rfl) rfl hA.1 (Nat.le_of_ble_eq_true rfl) (Nat.le_of_ble_eq_true rfl) (Nat.le_of_ble_eq_true rfl) (q_goTo hA hk) (fun r M2 z2 hq => ?_) (fun E M2 z2 hq => by obtain ⟨hq, -⟩ := hq; cases hq)
  obtain ⟨hr, hA1, hO1, rfl⟩ := hq
  cases hr
  exact hk1 _ hA1 hO1
theorem q_do_s {u : Nat} (hA : PlAt M pb sc pl gr ti (nI k) od bk) (hk : k < 5) (hd : pb + 5 ≤ a ∨ a + 20 ≤ pb) (hF : RugF M a f) (hI : Rng f) (hde : 10 * d + e < 1000) : WP mX3_doOrder 42 [some (.ref pb), some (.ref a), some (.ref u), some (.int (nI p)), some (.int (nI 115)), some (.int x), some (.int (nI (10 * d + e)))] [] M z 0 0 (DoQ (decide ((f_sew (10 * d + e) f).2 = 10 * d + e)) M pb a (f_sew (10 * d + e) f).1 sc pl gr ti k od bk z) := by
  obtain ⟨R0, hro⟩ := hF.ob
  refine g_iload_4 dX3_doOrder_42 ?_
  refine g_tabIn (x := nI 115) (off := 104) (tgt := 148) dX3_doOrder_44 (by decide) (by decide) rfl (by decide) ?_
  refine g_aload_1 dX3_doOrder_148 ?_
  refine g_iload_6 dX3_doOrder_149 ?_
  refine g_v1 dX3_doOrder_151 (vX3_68 rfl) rfl hro (Nat.le_of_ble_eq_true rfl) (Nat.le_of_ble_eq_true rfl) (Nat.le_of_ble_eq_true rfl) (q_sewUpTo hF hI (by omega)) (fun r M2 z2 hq => ?_) (fun E M2 z2 hq => by obtain ⟨hq, -⟩ := hq; cases hq)
  obtain ⟨hr, hF1, hO1, rfl⟩ := hq
  cases hr
  have hA1 := hA.keep (fun q q1 q2 => hO1 q (by omega))
  have hle : (f_sew (10 * d + e) f).2 ≤ 10 * d + e := sew_cnt _
  refine g_iload_6 dX3_doOrder_154 ?_
  refine g_icmp_neN (tgt := 163) dX3_doOrder_156 (by decide) (by omega) (by omega) (fun hb => ?_) (fun hb => ?_)
  · refine g_iconst (v := nI 0) dX3_doOrder_163 rfl ?_
    exact g_ireturn rfl rfl dX3_doOrder_164 (Nat.le_of_ble_eq_true rfl) (Nat.le_of_ble_eq_true rfl) (by first | exact ⟨by rw [decide_eq_false hb]; rfl, hA1, hF1, fun q _ b => hO1 q b, rfl⟩ | exact ⟨by rw [decide_eq_true hb]; rfl, hA1, hF1, fun q _ b => hO1 q b, rfl⟩)
  · refine g_iconst (v := nI 1) dX3_doOrder_159 rfl ?_
    refine g_goto (tgt := 164) dX3_doOrder_160 (by decide) ?_
    exact g_ireturn rfl rfl dX3_doOrder_164 (Nat.le_of_ble_eq_true rfl) (Nat.le_of_ble_eq_true rfl) (by first | exact ⟨by rw [decide_eq_false hb]; rfl, hA1, hF1, fun q _ b => hO1 q b, rfl⟩ | exact ⟨by rw [decide_eq_true hb]; rfl, hA1, hF1, fun q _ b => hO1 q b, rfl⟩)
theorem q_do_j {u : Nat} (hA : PlAt M pb sc pl gr ti (nI k) od bk) (hk : k < 5) (hd : pb + 5 ≤ a ∨ a + 20 ≤ pb) (hF : RugF M a f) (hI : Rng f) (hde : 10 * d + e < 1000) : WP mX3_doOrder 42 [some (.ref pb), some (.ref a), some (.ref u), some (.int (nI p)), some (.int (nI 106)), some (.int x), some (.int (nI (10 * d + e)))] [] M z 0 0 (DoQ (decide ((f_jump (10 * d + e) f).2 = 10 * d + e)) M pb a (f_jump (10 * d + e) f).1 sc pl gr ti k od bk z) := by
  obtain ⟨R0, hro⟩ := hF.ob
  refine g_iload_4 dX3_doOrder_42 ?_
  refine g_tabIn (x := nI 106) (off := 121) (tgt := 165) dX3_doOrder_44 (by decide) (by decide) rfl (by decide) ?_
  refine g_aload_1 dX3_doOrder_165 ?_
  refine g_iload_6 dX3_doOrder_166 ?_
  refine g_v1 dX3_doOrder_168 (vX3_73 rfl) rfl hro (Nat.le_of_ble_eq_true rfl) (Nat.le_of_ble_eq_true rfl) (Nat.le_of_ble_eq_true rfl) (q_jumpOver hF hI (by omega)) (fun r M2 z2 hq => ?_) (fun E M2 z2 hq => by obtain ⟨hq, -⟩ := hq; cases hq)
  obtain ⟨hr, hF1, hO1, rfl⟩ := hq
  cases hr
  have hA1 := hA.keep (fun q q1 q2 => hO1 q (by omega))
  have hle : (f_jump (10 * d + e) f).2 ≤ 10 * d + e := jump_cnt _
  refine g_iload_6 dX3_doOrder_171 ?_
  refine g_icmp_neN (tgt := 180) dX3_doOrder_173 (by decide) (by omega) (by omega) (fun hb => ?_) (fun hb => ?_)
  · refine g_iconst (v := nI 0) dX3_doOrder_180 rfl ?_
    exact g_ireturn rfl rfl dX3_doOrder_181 (Nat.le_of_ble_eq_true rfl) (Nat.le_of_ble_eq_true rfl) (by first | exact ⟨by rw [decide_eq_false hb]; rfl, hA1, hF1, fun q _ b => hO1 q b, rfl⟩ | exact ⟨by rw [decide_eq_true hb]; rfl, hA1, hF1, fun q _ b => hO1 q b, rfl⟩)
  · refine g_iconst (v := nI 1) dX3_doOrder_176 rfl ?_
    refine g_goto (tgt := 181) dX3_doOrder_177 (by decide) ?_
    exact g_ireturn rfl rfl dX3_doOrder_181 (Nat.le_of_ble_eq_true rfl) (Nat.le_of_ble_eq_true rfl) (by first | exact ⟨by rw [decide_eq_false hb]; rfl, hA1, hF1, fun q _ b => hO1 q b, rfl⟩ | exact ⟨by rw [decide_eq_true hb]; rfl, hA1, hF1, fun q _ b => hO1 q b, rfl⟩)
theorem q_do_l {u : Nat} (hA : PlAt M pb sc pl gr ti (nI k) od bk) (hk : k < 5) (hd : pb + 5 ≤ a ∨ a + 20 ≤ pb) (hF : RugF M a f) (hI : Rng f) : WP mX3_doOrder 42 [some (.ref pb), some (.ref a), some (.ref u), some (.int (nI p)), some (.int (nI 108)), some (.int x), some (.int y)] [] M z 0 0 (DoQ true M pb a (f_turn f 3) sc pl gr ti k od bk z) := by
  obtain ⟨R0, hro⟩ := hF.ob
  refine g_iload_4 dX3_doOrder_42 ?_
  refine g_tabIn (x := nI 108) (off := 138) (tgt := 182) dX3_doOrder_44 (by decide) (by decide) rfl (by decide) ?_
  refine g_aload_1 dX3_doOrder_182 ?_
  refine g_iconst (v := -1) dX3_doOrder_183 rfl ?_
  refine g_v1 dX3_doOrder_184 (vX3_76 rfl) rfl hro (Nat.le_of_ble_eq_true rfl) (Nat.le_of_ble_eq_true rfl) (Nat.le_of_ble_eq_true rfl) (q_turnm hF hI) (fun r M2 z2 hq => ?_) (fun E M2 z2 hq => by obtain ⟨hq, -⟩ := hq; cases hq)
  obtain ⟨hr, hF1, hO1, rfl⟩ := hq
  cases hr
  have hA1 := hA.keep (fun q q1 q2 => hO1 q (by omega))
  refine g_iconst (v := nI 1) dX3_doOrder_187 rfl ?_
  exact g_ireturn rfl rfl dX3_doOrder_188 (Nat.le_of_ble_eq_true rfl) (Nat.le_of_ble_eq_true rfl) ⟨rfl, hA1, hF1, fun q _ b => hO1 q b, rfl⟩
theorem q_do_r {u : Nat} (hA : PlAt M pb sc pl gr ti (nI k) od bk) (hk : k < 5) (hd : pb + 5 ≤ a ∨ a + 20 ≤ pb) (hF : RugF M a f) (hI : Rng f) : WP mX3_doOrder 42 [some (.ref pb), some (.ref a), some (.ref u), some (.int (nI p)), some (.int (nI 114)), some (.int x), some (.int y)] [] M z 0 0 (DoQ true M pb a (f_turn f 1) sc pl gr ti k od bk z) := by
  obtain ⟨R0, hro⟩ := hF.ob
  refine g_iload_4 dX3_doOrder_42 ?_
  refine g_tabIn (x := nI 114) (off := 145) (tgt := 189) dX3_doOrder_44 (by decide) (by decide) rfl (by decide) ?_
  refine g_aload_1 dX3_doOrder_189 ?_
  refine g_iconst (v := nI 1) dX3_doOrder_190 rfl ?_
  refine g_v1 dX3_doOrder_191 (vX3_76 rfl) rfl hro (Nat.le_of_ble_eq_true rfl) (Nat.le_of_ble_eq_true rfl) (Nat.le_of_ble_eq_true rfl) (q_turn1 hF hI) (fun r M2 z2 hq => ?_) (fun E M2 z2 hq => by obtain ⟨hq, -⟩ := hq; cases hq)
  obtain ⟨hr, hF1, hO1, rfl⟩ := hq
  cases hr
  have hA1 := hA.keep (fun q q1 q2 => hO1 q (by omega))
  refine g_iconst (v := nI 1) dX3_doOrder_194 rfl ?_
  exact g_ireturn rfl rfl dX3_doOrder_195 (Nat.le_of_ble_eq_true rfl) (Nat.le_of_ble_eq_true rfl) ⟨rfl, hA1, hF1, fun q _ b => hO1 q b, rfl⟩
theorem q_do_c {u : Nat} (hA : PlAt M pb sc pl gr ti (nI k) od bk) (hk : k < 5) (hd : pb + 5 ≤ a ∨ a + 20 ≤ pb) (hF : RugF M a f) (hI : Rng f) (hd5 : d < 5) : WP mX3_doOrder 42 [some (.ref pb), some (.ref a), some (.ref u), some (.int (nI p)), some (.int (nI 99)), some (.int (nI d)), some (.int y)] [] M z 0 0 (DoQ (decide (nI 20 ≤ f (432 + 5 * d))) M pb a (if nI 20 ≤ f (432 + 5 * d) then f_thread f d else f) sc pl gr ti k od bk z) := by
  obtain ⟨R0, hro⟩ := hF.ob
  refine g_iload_4 dX3_doOrder_42 ?_
  refine g_tabIn (x := nI 99) (off := 152) (tgt := 196) dX3_doOrder_44 (by decide) (by decide) rfl (by decide) ?_
  refine g_aload_1 dX3_doOrder_196 ?_
  refine g_iload_5 dX3_doOrder_197 ?_
  refine g_v1 dX3_doOrder_199 (vX3_79 rfl) rfl hro (Nat.le_of_ble_eq_true rfl) (Nat.le_of_ble_eq_true rfl) (Nat.le_of_ble_eq_true rfl) (q_tryThread hF hI hd5) (fun r M2 z2 hq => ?_) (fun E M2 z2 hq => by obtain ⟨hq, -⟩ := hq; cases hq)
  obtain ⟨hr, hF1, hO1, rfl⟩ := hq
  cases hr
  have hA1 := hA.keep (fun q q1 q2 => hO1 q (by omega))
  exact g_ireturn rfl (bI_narrow _) dX3_doOrder_202 (Nat.le_of_ble_eq_true rfl) (Nat.le_of_ble_eq_true rfl) ⟨rfl, hA1, hF1, fun q _ b => hO1 q b, rfl⟩
theorem q_do_x {u : Nat} (hA : PlAt M pb sc pl gr ti (nI k) od bk) (hk : k < 5) (hd : pb + 5 ≤ a ∨ a + 20 ≤ pb) (hF : RugF M a f) (hI : Rng f) : WP mX3_doOrder 42 [some (.ref pb), some (.ref a), some (.ref u), some (.int (nI p)), some (.int (nI 120)), some (.int x), some (.int y)] [] M z 0 0 (DoQ (decide (0 < tno f)) M pb a (f_cut0 f) sc pl gr ti k od bk z) := by
  obtain ⟨R0, hro⟩ := hF.ob
  refine g_iload_4 dX3_doOrder_42 ?_
  refine g_tabIn (x := nI 120) (off := 167) (tgt := 211) dX3_doOrder_44 (by decide) (by decide) rfl (by decide) ?_
  refine g_aload_1 dX3_doOrder_211 ?_
  refine g_v0 dX3_doOrder_212 (vX3_86 rfl) rfl hro (Nat.le_of_ble_eq_true rfl) (Nat.le_of_ble_eq_true rfl) (Nat.le_of_ble_eq_true rfl) (q_tryCut hF hI) (fun r M2 z2 hq => ?_) (fun E M2 z2 hq => by obtain ⟨hq, -⟩ := hq; cases hq)
  obtain ⟨hr, hF1, hO1, rfl⟩ := hq
  cases hr
  have hA1 := hA.keep (fun q q1 q2 => hO1 q (by omega))
  exact g_ireturn rfl (bI_narrow _) dX3_doOrder_215 (Nat.le_of_ble_eq_true rfl) (Nat.le_of_ble_eq_true rfl) ⟨rfl, hA1, hF1, fun q _ b => hO1 q b, rfl⟩
theorem q_do_e {u : Nat} (hA : PlAt M pb sc pl gr ti (nI k) od bk) (hk : k < 5) (hd : pb + 5 ≤ a ∨ a + 20 ≤ pb) (hF : RugF M a f) (hI : Rng f) : WP mX3_doOrder 42 [some (.ref pb), some (.ref a), some (.ref u), some (.int (nI p)), some (.int (nI 101)), some (.int x), some (.int y)] [] M z 0 0 (DoQ (decide (0 < tno f)) M pb a (if 0 < tno f then f_ease f else f) sc pl gr ti k od bk z) := by
  obtain ⟨R0, hro⟩ := hF.ob
  refine g_iload_4 dX3_doOrder_42 ?_
  refine g_tabIn (x := nI 101) (off := 172) (tgt := 216) dX3_doOrder_44 (by decide) (by decide) rfl (by decide) ?_
  refine g_aload_1 dX3_doOrder_216 ?_
  refine g_v0 dX3_doOrder_217 (vX3_90 rfl) rfl hro (Nat.le_of_ble_eq_true rfl) (Nat.le_of_ble_eq_true rfl) (Nat.le_of_ble_eq_true rfl) (q_tryEase hF hI) (fun r M2 z2 hq => ?_) (fun E M2 z2 hq => by obtain ⟨hq, -⟩ := hq; cases hq)
  obtain ⟨hr, hF1, hO1, rfl⟩ := hq
  cases hr
  have hA1 := hA.keep (fun q q1 q2 => hO1 q (by omega))
  exact g_ireturn rfl (bI_narrow _) dX3_doOrder_220 (Nat.le_of_ble_eq_true rfl) (Nat.le_of_ble_eq_true rfl) ⟨rfl, hA1, hF1, fun q _ b => hO1 q b, rfl⟩
theorem q_do_h {u : Nat} (hA : PlAt M pb sc pl gr ti (nI k) od bk) (hk : k < 5) (hd : pb + 5 ≤ a ∨ a + 20 ≤ pb) (hF : RugF M a f) (hI : Rng f) : WP mX3_doOrder 42 [some (.ref pb), some (.ref a), some (.ref u), some (.int (nI p)), some (.int (nI 104)), some (.int (nI d)), some (.int y)] [] M z 0 0 (DoQ true M pb a (upd f 460 (nI d)) sc pl gr ti k od bk z) := by
  obtain ⟨R0, hro⟩ := hF.ob
  refine g_iload_4 dX3_doOrder_42 ?_
  refine g_tabIn (x := nI 104) (off := 159) (tgt := 203) dX3_doOrder_44 (by decide) (by decide) rfl (by decide) ?_
  obtain ⟨R, ln, sg, hR, hRel⟩ := hF
  refine g_aload_1 dX3_doOrder_203 ?_
  refine g_iload_5 dX3_doOrder_204 ?_
  refine g_putS (ty := .int) (s := 3) dX3_doOrder_206 (fX3_83 rfl) (by decide) hR (fun M1 hR1 hO1 => ?_)
  have hF1 : RugF M1 a (upd f 460 (nI d)) := ⟨_, ln, sg, hR1, hRel.s3⟩
  have hA1 := hA.keep (fun q q1 q2 => hO1 q (by omega))
  refine g_iconst (v := nI 1) dX3_doOrder_209 rfl ?_
  exact g_ireturn rfl rfl dX3_doOrder_210 (Nat.le_of_ble_eq_true rfl) (Nat.le_of_ble_eq_true rfl) ⟨rfl, hA1, hF1, fun q _ b => hO1 q b, rfl⟩
theorem q_do_m1 {u : Nat} (hA : PlAt M pb sc pl gr ti (nI k) od bk) (hk : k < 5) (hd : pb + 5 ≤ a ∨ a + 20 ≤ pb) (hF : RugF M a f) (hI : Rng f) {l : Nat} (hd4 : d < 4) (hln : f (463 + d) = nI l) (hl9 : l ≤ 120) (hl : 0 < l) (hk4 : k < 4) : WP mX3_doOrder 42 [some (.ref pb), some (.ref a), some (.ref u), some (.int (nI p)), some (.int (nI 109)), some (.int (nI d)), some (.int y)] [] M z 0 0 (DoQ true M pb a f (va_up sc (k + 1) (some (a + (12 + 2 * d)))) (upd pl (k + 1) (nI 0)) gr (upd ti (k + 1) (nI 0)) (k + 1) od bk z) := by
  obtain ⟨R0, hro⟩ := hF.ob
  refine g_iload_4 dX3_doOrder_42 ?_
  refine g_tabIn (x := nI 109) (off := 177) (tgt := 221) dX3_doOrder_44 (by decide) (by decide) rfl (by decide) ?_
  have hF0 := hF
  obtain ⟨R, ln, sg, hR, hRel⟩ := hF
  obtain ⟨-, hsc⟩ := hR.2.2.2
  have hF := hF0
  refine g_aload_0 dX3_doOrder_221 ?_
  refine g_aload_1 dX3_doOrder_222 ?_
  refine g_iload_5 dX3_doOrder_223 ?_
  refine g_v1_1 dX3_doOrder_225 (vX3_93 rfl) rfl hro (Nat.le_of_ble_eq_true rfl) ⟨rfl, rfl⟩ (Nat.le_of_ble_eq_true rfl) (Nat.le_of_ble_eq_true rfl) (q_motifAt1 hF hd4 hln hl9 hl) ?_
  refine g_v1 dX3_doOrder_228 (vX3_37 rfl) rfl hA.1 (Nat.le_of_ble_eq_true rfl) (Nat.le_of_ble_eq_true rfl) (Nat.le_of_ble_eq_true rfl) (q_enter1 hA (hsc d hd4).1 (by omega) (by omega)) (fun r M2 z2 hq => ?_) (fun E M2 z2 hq => by obtain ⟨hq, -⟩ := hq; cases hq)
  obtain ⟨hr, hA1, hO1, rfl⟩ := hq
  cases hr
  have hF1 := hF0.keep (M' := M2) (fun q q1 q2 => hO1 q (by omega))
  exact g_ireturn rfl rfl dX3_doOrder_231 (Nat.le_of_ble_eq_true rfl) (Nat.le_of_ble_eq_true rfl) ⟨rfl, hA1, hF1, fun q b _ => hO1 q b, rfl⟩
theorem q_do_m0 {u : Nat} (hA : PlAt M pb sc pl gr ti (nI k) od bk) (hk : k < 5) (hd : pb + 5 ≤ a ∨ a + 20 ≤ pb) (hF : RugF M a f) (hI : Rng f) {l : Nat} (hd4 : d < 4) (hln : f (463 + d) = nI l) (hl9 : l ≤ 120) (hl : l = 0) : WP mX3_doOrder 42 [some (.ref pb), some (.ref a), some (.ref u), some (.int (nI p)), some (.int (nI 109)), some (.int (nI d)), some (.int y)] [] M z 0 0 (DoQ false M pb a f sc pl gr ti k od bk z) := by
  obtain ⟨R0, hro⟩ := hF.ob
  refine g_iload_4 dX3_doOrder_42 ?_
  refine g_tabIn (x := nI 109) (off := 177) (tgt := 221) dX3_doOrder_44 (by decide) (by decide) rfl (by decide) ?_
  refine g_aload_0 dX3_doOrder_221 ?_
  refine g_aload_1 dX3_doOrder_222 ?_
  refine g_iload_5 dX3_doOrder_223 ?_
  refine g_v1_1 dX3_doOrder_225 (vX3_93 rfl) rfl hro (Nat.le_of_ble_eq_true rfl) ⟨rfl, rfl⟩ (Nat.le_of_ble_eq_true rfl) (Nat.le_of_ble_eq_true rfl) (q_motifAt0 hF hd4 hln hl9 hl) ?_
  refine g_v1_1 dX3_doOrder_228 (vX3_37 rfl) rfl hA.1 (Nat.le_of_ble_eq_true rfl) ⟨rfl, rfl⟩ (Nat.le_of_ble_eq_true rfl) (Nat.le_of_ble_eq_true rfl) (q_enterN hA) ?_
  exact g_ireturn rfl rfl dX3_doOrder_231 (Nat.le_of_ble_eq_true rfl) (Nat.le_of_ble_eq_true rfl) ⟨rfl, hA, hF, fun _ _ _ => rfl, rfl⟩
theorem q_do_g {u : Nat} (hA : PlAt M pb sc pl gr ti (nI k) od bk) (hk : k < 5) (hd : pb + 5 ≤ a ∨ a + 20 ≤ pb) (hF : RugF M a f) (hI : Rng f) (hc : 50 ≤ c ∧ c ≤ 57) : WP mX3_doOrder 42 [some (.ref pb), some (.ref a), some (.ref u), some (.int (nI p)), some (.int (nI c)), some (.int x), some (.int y)] [] M z 0 0 (DoQ true M pb a f sc pl (upd gr k (nI (p + 2))) (upd ti k (nI (c - 48))) k od bk z) := by
  obtain ⟨R0, hro⟩ := hF.ob
  refine g_iload_4 dX3_doOrder_42 ?_
  refine g_tabOut (x := nI c) (tgt := 232) dX3_doOrder_44 (Or.inl (by rw [nI_toInt (by omega)]; omega)) (by decide) ?_
  refine g_aload_0 dX3_doOrder_232 ?_
  refine g_iload_3 dX3_doOrder_233 ?_
  refine g_iconst (v := nI 2) dX3_doOrder_234 rfl ?_
  refine g_iaddN dX3_doOrder_235 ?_
  refine g_iload_4 dX3_doOrder_236 ?_
  refine g_bipush (v := nI 48) dX3_doOrder_238 rfl ?_
  refine g_isubN dX3_doOrder_240 (by omega) ?_
  refine g_v2 dX3_doOrder_241 (vX3_97 rfl) rfl hA.1 (Nat.le_of_ble_eq_true rfl) (Nat.le_of_ble_eq_true rfl) (Nat.le_of_ble_eq_true rfl) (q_startGroup hA hk) (fun r M2 z2 hq => ?_) (fun E M2 z2 hq => by obtain ⟨hq, -⟩ := hq; cases hq)
  obtain ⟨hr, hA1, hO1, rfl⟩ := hq
  cases hr
  have hF1 := hF.keep (M' := M2) (fun q q1 q2 => hO1 q (by omega))
  refine g_iconst (v := nI 1) dX3_doOrder_244 rfl ?_
  exact g_ireturn rfl rfl dX3_doOrder_245 (Nat.le_of_ble_eq_true rfl) (Nat.le_of_ble_eq_true rfl) ⟨rfl, hA1, hF1, fun q b _ => hO1 q b, rfl⟩
end P51
