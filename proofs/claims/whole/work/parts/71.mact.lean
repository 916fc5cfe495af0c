section P71
variable {M M0 : Hp} {z b n len i j k c s m lo hi q d hd : Nat} {f t : Row} {h : Nat → Row} {sv : Nat → Option Row} {g : Nat → Nat} {x y w0 w1 w2 v : Int32} {Φ : GR → Hp → Nat → Prop} {I : Row} {A : Nat → Row} {xl yl : Int64}
theorem g_iincN_10 {mm : GM} {pc kk nn j9 q9 : Nat} {T : List (Option Value)} {rest : List Value} {p0 p1 p2 p3 p4 p5 p6 p7 p8 p9 : Option Value} {cc : Int} (hp : gw1 p9 = true) (d : dc mm pc (.iinc 10 cc) 3) (hv : Int32.ofInt cc = nI q9) (h : WP mm (pc + 3) (p0 :: p1 :: p2 :: p3 :: p4 :: p5 :: p6 :: p7 :: p8 :: p9 :: some (.int (nI (j9 + q9))) :: T) rest M z kk nn Φ) : WP mm pc (p0 :: p1 :: p2 :: p3 :: p4 :: p5 :: p6 :: p7 :: p8 :: p9 :: some (.int (nI j9)) :: T) rest M z kk nn Φ := g_iinc d rfl (fun a h => by have h2 : some p9 = some a := h.2; cases h2; exact hp) hv (by rfl) (by rw [nI_add]; exact h)
theorem MRel.app (hr : MRel I A f t n h sv len g) (hi : i < 256) (hl : len < 120) : MRel (upd (upd I 0 v) 16 (nI (len + 1))) (stg A 12 (upd (A 12) len (nI i))) f t n h sv (len + 1) (fun k => if k = len then i else g k) := by
  obtain ⟨h1, h2, h3, h4, h5, ⟨h6, h7⟩, h8, h9, h10, h11⟩ := hr
  refine ⟨(stg_ne (by decide)).trans h1, (stg_ne (by decide)).trans h2, (upd_ne (by decide)).trans ((upd_ne (by decide)).trans h3), h4, by rw [stg_ne (by decide)]; exact h5, ⟨by rw [stg_ne (by decide)]; exact h6, by rw [stg_ne (by decide)]; exact h7⟩, upd_eq, by omega, fun k hk => ?_, fun k => ?_⟩
  · rw [stg_eq]
    dsimp only
    by_cases e : k = len
    · subst e
      rw [upd_eq, if_pos rfl]
    · rw [upd_ne e, if_neg e]
      exact h10 k (by omega)
  · show (if k = len then i else g k) < 256
    split
    · exact hi
    · exact h11 k
theorem MRel.clr (hr : MRel I A f t n h sv len g) : MRel (upd (upd I 0 v) 16 (nI 0)) A f t n h sv 0 g := by
  obtain ⟨h1, h2, h3, h4, h5, h67, h8, h9, h10, h11⟩ := hr
  exact ⟨h1, h2, (upd_ne (by decide)).trans ((upd_ne (by decide)).trans h3), h4, h5, h67, upd_eq, by omega, fun k hk => absurd hk (by omega), h11⟩
theorem n_append_x1 (hA : MAt M b I A) (hr : MRel I A f t n h sv len g) (hx : x < nI 0 ∨ nI 255 < x) : Runs mX8_append [.ref b, .int x] M z (MoQ (some (.int (nI 0))) 1 M b (f) (t) n h sv len g z) := by
  obtain ⟨rfl, rfl, h12, hn14, h9, ⟨h11, h10⟩, h16, hl, hT⟩ := id hr
  refine runs_of plX8 rfl (Nat.le_of_ble_eq_true rfl) ?_
  show WP mX8_append 0 [some (.ref b), some (.int x)] [] M z 0 0 _
  refine g_aload_0 dX8_append_0 ?_
  refine g_iload_1 dX8_append_1 ?_
  refine g_i2l dX8_append_2 ?_
  refine g_lconst (vl := 0) dX8_append_3 rfl ?_
  refine g_ldc2 dX8_append_4 (zX8_144 rfl) ?_
  refine g_s3_1 dX8_append_7 (sX8_53 rfl) rfl (Nat.le_of_ble_eq_true rfl) ⟨rfl, rfl⟩ (Nat.le_of_ble_eq_true rfl) (Nat.le_of_ble_eq_true rfl) (m_in_x (lo := 0) (hi := 255) hx (by omega) (by omega) rfl rfl) ?_
  refine g_if_neB (tgt := 17) dX8_append_10 (by decide)  (fun h10 => absurd h10 (by decide)) (fun _ => ?_)
  refine g_iconst (v := nI 1) dX8_append_13 rfl ?_
  refine g_goto (tgt := 31) dX8_append_14 (by decide) ?_
  refine g_v1 dX8_append_31 (vX8_149 rfl) rfl hA.1 (Nat.le_of_ble_eq_true rfl) (Nat.le_of_ble_eq_true rfl) (Nat.le_of_ble_eq_true rfl) (m_refk hA (by omega) (by omega)) (fun r1 M1 z1 hq1 => ?_) (fun E M2 z2 hq => by obtain ⟨hq, -⟩ := hq; cases hq)
  obtain ⟨hr1, hA1, hO1, hz1⟩ := hq1
  cases hr1
  subst hz1
  refine g_if_eqB (tgt := 39) dX8_append_34 (by decide)  (fun h34 => absurd h34 (by decide)) (fun _ => ?_)
  refine g_iconst (v := nI 0) dX8_append_37 rfl ?_
  exact g_ireturn rfl rfl dX8_append_38 (Nat.le_of_ble_eq_true rfl) (Nat.le_of_ble_eq_true rfl) ⟨rfl, ⟨_, _, hA1, upd_eq, hr.i0⟩, hO1, rfl⟩
theorem n_append_x2 (hA : MAt M b I A) (hr : MRel I A f t n h sv len g) (hi : i < 256) (hl0 : len = 120) : Runs mX8_append [.ref b, .int (nI i)] M z (MoQ (some (.int (nI 0))) 2 M b (f) (t) n h sv len g z) := by
  obtain ⟨rfl, rfl, h12, hn14, h9, ⟨h11, h10⟩, h16, hl, hT⟩ := id hr
  refine runs_of plX8 rfl (Nat.le_of_ble_eq_true rfl) ?_
  show WP mX8_append 0 [some (.ref b), some (.int (nI i))] [] M z 0 0 _
  refine g_aload_0 dX8_append_0 ?_
  refine g_iload_1 dX8_append_1 ?_
  refine g_i2l dX8_append_2 ?_
  refine g_lconst (vl := 0) dX8_append_3 rfl ?_
  refine g_ldc2 dX8_append_4 (zX8_144 rfl) ?_
  refine g_s3_1 dX8_append_7 (sX8_53 rfl) rfl (Nat.le_of_ble_eq_true rfl) ⟨rfl, rfl⟩ (Nat.le_of_ble_eq_true rfl) (Nat.le_of_ble_eq_true rfl) (m_in_ok (lo := 0) (hi := 255) (by omega) (by omega) (by omega) rfl rfl) ?_
  refine g_if_neB (tgt := 17) dX8_append_10 (by decide)  (fun _ => ?_) (fun h10 => absurd h10 (by decide))
  refine g_aload_0 dX8_append_17 ?_
  refine g_get dX8_append_18 (fX8_146 rfl) hA.1 rfl ?_
  rw [h16]
  refine g_bipush (v := nI 120) dX8_append_21 rfl ?_
  refine g_icmp_neN (tgt := 30) dX8_append_23 (by decide) (by omega) (by omega) (fun h23 => absurd hl0 h23) (fun _ => ?_)
  refine g_iconst (v := nI 2) dX8_append_26 rfl ?_
  refine g_goto (tgt := 31) dX8_append_27 (by decide) ?_
  refine g_v1 dX8_append_31 (vX8_149 rfl) rfl hA.1 (Nat.le_of_ble_eq_true rfl) (Nat.le_of_ble_eq_true rfl) (Nat.le_of_ble_eq_true rfl) (m_refk hA (by omega) (by omega)) (fun r1 M1 z1 hq1 => ?_) (fun E M2 z2 hq => by obtain ⟨hq, -⟩ := hq; cases hq)
  obtain ⟨hr1, hA1, hO1, hz1⟩ := hq1
  cases hr1
  subst hz1
  refine g_if_eqB (tgt := 39) dX8_append_34 (by decide)  (fun h34 => absurd h34 (by decide)) (fun _ => ?_)
  refine g_iconst (v := nI 0) dX8_append_37 rfl ?_
  exact g_ireturn rfl rfl dX8_append_38 (Nat.le_of_ble_eq_true rfl) (Nat.le_of_ble_eq_true rfl) ⟨rfl, ⟨_, _, hA1, upd_eq, hr.i0⟩, hO1, rfl⟩
theorem n_append (hA : MAt M b I A) (hr : MRel I A f t n h sv len g) (hi : i < 256) (hl0 : len < 120) : Runs mX8_append [.ref b, .int (nI i)] M z (MoQ (some (.int (nI (len + 1)))) 0 M b (f) (t) n h sv (len + 1) (fun k => if k = len then i else g k) z) := by
  obtain ⟨rfl, rfl, h12, hn14, h9, ⟨h11, h10⟩, h16, hl, hT⟩ := id hr
  refine runs_of plX8 rfl (Nat.le_of_ble_eq_true rfl) ?_
  show WP mX8_append 0 [some (.ref b), some (.int (nI i))] [] M z 0 0 _
  refine g_aload_0 dX8_append_0 ?_
  refine g_iload_1 dX8_append_1 ?_
  refine g_i2l dX8_append_2 ?_
  refine g_lconst (vl := 0) dX8_append_3 rfl ?_
  refine g_ldc2 dX8_append_4 (zX8_144 rfl) ?_
  refine g_s3_1 dX8_append_7 (sX8_53 rfl) rfl (Nat.le_of_ble_eq_true rfl) ⟨rfl, rfl⟩ (Nat.le_of_ble_eq_true rfl) (Nat.le_of_ble_eq_true rfl) (m_in_ok (lo := 0) (hi := 255) (by omega) (by omega) (by omega) rfl rfl) ?_
  refine g_if_neB (tgt := 17) dX8_append_10 (by decide)  (fun _ => ?_) (fun h10 => absurd h10 (by decide))
  refine g_aload_0 dX8_append_17 ?_
  refine g_get dX8_append_18 (fX8_146 rfl) hA.1 rfl ?_
  rw [h16]
  refine g_bipush (v := nI 120) dX8_append_21 rfl ?_
  refine g_icmp_neN (tgt := 30) dX8_append_23 (by decide) (by omega) (by omega) (fun _ => ?_) (fun h23 => absurd hl0 (by omega))
  refine g_iconst (v := nI 0) dX8_append_30 rfl ?_
  refine g_v1 dX8_append_31 (vX8_149 rfl) rfl hA.1 (Nat.le_of_ble_eq_true rfl) (Nat.le_of_ble_eq_true rfl) (Nat.le_of_ble_eq_true rfl) (m_ref0 hA) (fun r1 M1 z1 hq1 => ?_) (fun E M2 z2 hq => by obtain ⟨hq, -⟩ := hq; cases hq)
  obtain ⟨hr1, hA1, hO1, hz1⟩ := hq1
  cases hr1
  subst hz1
  refine g_if_eqB (tgt := 39) dX8_append_34 (by decide)  (fun _ => ?_) (fun h34 => absurd h34 (by decide))
  refine g_aload_0 dX8_append_39 ?_
  refine g_get dX8_append_40 (fX8_44 rfl) hA1.1 rfl ?_
  refine g_aload_0 dX8_append_43 ?_
  refine g_get dX8_append_44 (fX8_146 rfl) hA1.1 rfl ?_
  rw [show upd I 0 (nI 0) 16 = nI len from (upd_ne (by decide)).trans h16]
  refine g_iload_1 dX8_append_47 ?_
  refine g_iastN dX8_append_48 hA1.2.2.2.2.2.2.2.2.2.2.2.2 (by omega) (by decide) ?_
  have hA2 := hA1.a12 (g := upd (A 12) len (nI i))
  refine g_aload_0 dX8_append_49 ?_
  refine g_dup dX8_append_50 rfl ?_
  refine g_get dX8_append_51 (fX8_146 rfl) hA2.1 rfl ?_
  rw [show upd I 0 (nI 0) 16 = nI len from (upd_ne (by decide)).trans h16]
  refine g_iconst (v := nI 1) dX8_append_54 rfl ?_
  refine g_iaddN dX8_append_55 ?_
  refine g_putI16 dX8_append_56 (fX8_146 rfl) hA2 (fun M3 hA3 n3 => ?_)
  have hao3 := hA3.1
  refine g_aload_0 dX8_append_59 ?_
  refine g_get dX8_append_60 (fX8_146 rfl) hA3.1 rfl ?_
  rw [show upd (upd I 0 (nI 0)) 16 (nI (len + 1)) 16 = nI (len + 1) from upd_eq]
  exact g_ireturn rfl rfl dX8_append_63 (Nat.le_of_ble_eq_true rfl) (Nat.le_of_ble_eq_true rfl) ⟨rfl, ⟨_, _, hA3, (upd_ne (by decide)).trans upd_eq, hr.app hi hl0⟩, hO1.tr ((Out.put (by omega) (by omega)).tr (fun q hq => n3 q (by omega))), rfl⟩
theorem n_clearText (hA : MAt M b I A) (hr : MRel I A f t n h sv len g) : Runs mX8_clearText [.ref b] M z (MoQ (some (.int (nI len))) 0 M b (f) (t) n h sv 0 g z) := by
  obtain ⟨rfl, rfl, h12, hn14, h9, ⟨h11, h10⟩, h16, hl, hT⟩ := id hr
  refine runs_of plX8 rfl (Nat.le_of_ble_eq_true rfl) ?_
  show WP mX8_clearText 0 [some (.ref b), none] [] M z 0 0 _
  refine g_aload_0 dX8_clearText_0 ?_
  refine g_iconst (v := nI 0) dX8_clearText_1 rfl ?_
  refine g_putI0 dX8_clearText_2 (fX8_47 rfl) hA (fun M1 hA1 n1 => ?_)
  have hao1 := hA1.1
  have hO1 : Out M M1 b 13 := fun q hq => n1 q (by omega)
  refine g_aload_0 dX8_clearText_5 ?_
  refine g_get dX8_clearText_6 (fX8_146 rfl) hA1.1 rfl ?_
  rw [show upd I 0 (nI 0) 16 = nI len from (upd_ne (by decide)).trans h16]
  refine g_istore_1 rfl dX8_clearText_9 ?_
  refine g_aload_0 dX8_clearText_10 ?_
  refine g_iconst (v := nI 0) dX8_clearText_11 rfl ?_
  refine g_putI16 dX8_clearText_12 (fX8_146 rfl) hA1 (fun M2 hA2 n2 => ?_)
  have hao2 := hA2.1
  refine g_iload_1 dX8_clearText_15 ?_
  exact g_ireturn rfl rfl dX8_clearText_16 (Nat.le_of_ble_eq_true rfl) (Nat.le_of_ble_eq_true rfl) ⟨rfl, ⟨_, _, hA2, (upd_ne (by decide)).trans upd_eq, hr.clr⟩, hO1.tr (fun q hq => n2 q (by omega)), rfl⟩
theorem n_errorPosition (hA : MAt M b I A) (hr : MRel I A f t n h sv len g) : Runs mX8_errorPosition [.ref b] M z (MoQ (some (.int (pf g len len 0 0 false))) 0 M b (f) (t) n h sv len g z) := by
  obtain ⟨rfl, rfl, h12, hn14, h9, ⟨h11, h10⟩, h16, hl, hT⟩ := id hr
  refine runs_of plX8 rfl (Nat.le_of_ble_eq_true rfl) ?_
  show WP mX8_errorPosition 0 [some (.ref b)] [] M z 0 0 _
  refine g_aload_0 dX8_errorPosition_0 ?_
  refine g_iconst (v := nI 0) dX8_errorPosition_1 rfl ?_
  refine g_putI0 dX8_errorPosition_2 (fX8_47 rfl) hA (fun M1 hA1 n1 => ?_)
  have hao1 := hA1.1
  have hO1 : Out M M1 b 13 := fun q hq => n1 q (by omega)
  refine g_aload_0 dX8_errorPosition_5 ?_
  refine g_v0 dX8_errorPosition_6 (vX8_183 rfl) rfl hA1.1 (Nat.le_of_ble_eq_true rfl) (Nat.le_of_ble_eq_true rfl) (Nat.le_of_ble_eq_true rfl) (m_readAll hA1 ((upd_ne (by decide)).trans h16) hl) (fun r2 M2 z2 hq2 => ?_) (fun E M2 z2 hq => by obtain ⟨hq, -⟩ := hq; cases hq)
  obtain ⟨hr2, ⟨I2, hA2, h19, hI2⟩, hO2, hz2⟩ := hq2
  cases hr2
  subst hz2
  rw [(rdA_ok hT hl).1]
  exact g_ireturn rfl rfl dX8_errorPosition_9 (Nat.le_of_ble_eq_true rfl) (Nat.le_of_ble_eq_true rfl) ⟨rfl, ⟨_, _, hA2, (hI2 0 (by decide) (by decide) (by decide)).trans upd_eq, hr.of ((hI2 12 (by decide) (by decide) (by decide)).trans (upd_ne (by decide))) ((hI2 16 (by decide) (by decide) (by decide)).trans (upd_ne (by decide))) rfl rfl rfl rfl rfl rfl⟩, hO1.tr hO2, rfl⟩
theorem n_setPlan_x1 (hA : MAt M b I A) (hr : MRel I A f t n h sv len g) (hx : x < 0 ∨ nI 144 ≤ x) : Runs mX8_setPlan [.ref b, .int x, .int y] M z (MoQ (some (.int (nI 0))) 1 M b (f) (t) n h sv len g z) := by
  obtain ⟨rfl, rfl, h12, hn14, h9, ⟨h11, h10⟩, h16, hl, hT⟩ := id hr
  refine runs_of plX8 rfl (Nat.le_of_ble_eq_true rfl) ?_
  show WP mX8_setPlan 0 [some (.ref b), some (.int x), some (.int y), none] [] M z 0 0 _
  refine g_iload_1 dX8_setPlan_0 ?_
  refine g_s1_1 dX8_setPlan_1 (sX8_186 rfl) rfl (Nat.le_of_ble_eq_true rfl) ⟨rfl, rfl⟩ (Nat.le_of_ble_eq_true rfl) (Nat.le_of_ble_eq_true rfl) (m_isCell_x hx) ?_
  refine g_istore_3 rfl dX8_setPlan_4 ?_
  refine g_aload_0 dX8_setPlan_5 ?_
  refine g_iload_3 dX8_setPlan_6 ?_
  refine g_if_neB (tgt := 14) dX8_setPlan_7 (by decide)  (fun h7 => absurd h7 (by decide)) (fun _ => ?_)
  refine g_iconst (v := nI 1) dX8_setPlan_10 rfl ?_
  refine g_goto (tgt := 33) dX8_setPlan_11 (by decide) ?_
  refine g_v1 dX8_setPlan_33 (vX8_149 rfl) rfl hA.1 (Nat.le_of_ble_eq_true rfl) (Nat.le_of_ble_eq_true rfl) (Nat.le_of_ble_eq_true rfl) (m_refk hA (by omega) (by omega)) (fun r1 M1 z1 hq1 => ?_) (fun E M2 z2 hq => by obtain ⟨hq, -⟩ := hq; cases hq)
  obtain ⟨hr1, hA1, hO1, hz1⟩ := hq1
  cases hr1
  subst hz1
  refine g_if_eqB (tgt := 43) dX8_setPlan_36 (by decide)  (fun h36 => absurd h36 (by decide)) (fun _ => ?_)
  refine g_iconst (v := nI 0) dX8_setPlan_39 rfl ?_
  refine g_goto (tgt := 53) dX8_setPlan_40 (by decide) ?_
  exact g_ireturn rfl rfl dX8_setPlan_53 (Nat.le_of_ble_eq_true rfl) (Nat.le_of_ble_eq_true rfl) ⟨rfl, ⟨_, _, hA1, upd_eq, hr.i0⟩, hO1, rfl⟩
theorem n_setPlan_x2 (hA : MAt M b I A) (hr : MRel I A f t n h sv len g) (hj : j < 144) (hx : y < -1 ∨ nI 4 < y) : Runs mX8_setPlan [.ref b, .int (nI j), .int y] M z (MoQ (some (.int (nI 0))) 2 M b (f) (t) n h sv len g z) := by
  obtain ⟨rfl, rfl, h12, hn14, h9, ⟨h11, h10⟩, h16, hl, hT⟩ := id hr
  refine runs_of plX8 rfl (Nat.le_of_ble_eq_true rfl) ?_
  show WP mX8_setPlan 0 [some (.ref b), some (.int (nI j)), some (.int y), none] [] M z 0 0 _
  refine g_iload_1 dX8_setPlan_0 ?_
  refine g_s1_1 dX8_setPlan_1 (sX8_186 rfl) rfl (Nat.le_of_ble_eq_true rfl) ⟨rfl, rfl⟩ (Nat.le_of_ble_eq_true rfl) (Nat.le_of_ble_eq_true rfl) (m_isCell_ok hj) ?_
  refine g_istore_3 rfl dX8_setPlan_4 ?_
  refine g_aload_0 dX8_setPlan_5 ?_
  refine g_iload_3 dX8_setPlan_6 ?_
  refine g_if_neB (tgt := 14) dX8_setPlan_7 (by decide)  (fun _ => ?_) (fun h7 => absurd h7 (by decide))
  refine g_iload_2 dX8_setPlan_14 ?_
  refine g_i2l dX8_setPlan_15 ?_
  refine g_ldc2 dX8_setPlan_16 (zX8_219 rfl) ?_
  refine g_ldc2 dX8_setPlan_19 (zX8_57 rfl) ?_
  refine g_s3_1 dX8_setPlan_22 (sX8_53 rfl) rfl (Nat.le_of_ble_eq_true rfl) ⟨rfl, rfl⟩ (Nat.le_of_ble_eq_true rfl) (Nat.le_of_ble_eq_true rfl) (m_inC_x hx) ?_
  refine g_if_neB (tgt := 32) dX8_setPlan_25 (by decide)  (fun h25 => absurd h25 (by decide)) (fun _ => ?_)
  refine g_iconst (v := nI 2) dX8_setPlan_28 rfl ?_
  refine g_goto (tgt := 33) dX8_setPlan_29 (by decide) ?_
  refine g_v1 dX8_setPlan_33 (vX8_149 rfl) rfl hA.1 (Nat.le_of_ble_eq_true rfl) (Nat.le_of_ble_eq_true rfl) (Nat.le_of_ble_eq_true rfl) (m_refk hA (by omega) (by omega)) (fun r1 M1 z1 hq1 => ?_) (fun E M2 z2 hq => by obtain ⟨hq, -⟩ := hq; cases hq)
  obtain ⟨hr1, hA1, hO1, hz1⟩ := hq1
  cases hr1
  subst hz1
  refine g_if_eqB (tgt := 43) dX8_setPlan_36 (by decide)  (fun h36 => absurd h36 (by decide)) (fun _ => ?_)
  refine g_iconst (v := nI 0) dX8_setPlan_39 rfl ?_
  refine g_goto (tgt := 53) dX8_setPlan_40 (by decide) ?_
  exact g_ireturn rfl rfl dX8_setPlan_53 (Nat.le_of_ble_eq_true rfl) (Nat.le_of_ble_eq_true rfl) ⟨rfl, ⟨_, _, hA1, upd_eq, hr.i0⟩, hO1, rfl⟩
theorem n_setPlan (hA : MAt M b I A) (hr : MRel I A f t n h sv len g) (hj : j < 144) (hx1 : ¬ x < -1) (hx2 : x ≤ nI 4) : Runs mX8_setPlan [.ref b, .int (nI j), .int x] M z (MoQ (some (.int (f j - nI 1))) 0 M b (upd f j (x + nI 1)) (t) (remN n) (remH n h f) sv len g z) := by
  obtain ⟨rfl, rfl, h12, hn14, h9, ⟨h11, h10⟩, h16, hl, hT⟩ := id hr
  refine runs_of plX8 rfl (Nat.le_of_ble_eq_true rfl) ?_
  show WP mX8_setPlan 0 [some (.ref b), some (.int (nI j)), some (.int x), none] [] M z 0 0 _
  refine g_iload_1 dX8_setPlan_0 ?_
  refine g_s1_1 dX8_setPlan_1 (sX8_186 rfl) rfl (Nat.le_of_ble_eq_true rfl) ⟨rfl, rfl⟩ (Nat.le_of_ble_eq_true rfl) (Nat.le_of_ble_eq_true rfl) (m_isCell_ok hj) ?_
  refine g_istore_3 rfl dX8_setPlan_4 ?_
  refine g_aload_0 dX8_setPlan_5 ?_
  refine g_iload_3 dX8_setPlan_6 ?_
  refine g_if_neB (tgt := 14) dX8_setPlan_7 (by decide)  (fun _ => ?_) (fun h7 => absurd h7 (by decide))
  refine g_iload_2 dX8_setPlan_14 ?_
  refine g_i2l dX8_setPlan_15 ?_
  refine g_ldc2 dX8_setPlan_16 (zX8_219 rfl) ?_
  refine g_ldc2 dX8_setPlan_19 (zX8_57 rfl) ?_
  refine g_s3_1 dX8_setPlan_22 (sX8_53 rfl) rfl (Nat.le_of_ble_eq_true rfl) ⟨rfl, rfl⟩ (Nat.le_of_ble_eq_true rfl) (Nat.le_of_ble_eq_true rfl) (m_inC_ok hx1 hx2) ?_
  refine g_if_neB (tgt := 32) dX8_setPlan_25 (by decide)  (fun _ => ?_) (fun h25 => absurd h25 (by decide))
  refine g_iconst (v := nI 0) dX8_setPlan_32 rfl ?_
  refine g_v1 dX8_setPlan_33 (vX8_149 rfl) rfl hA.1 (Nat.le_of_ble_eq_true rfl) (Nat.le_of_ble_eq_true rfl) (Nat.le_of_ble_eq_true rfl) (m_ref0 hA) (fun r1 M1 z1 hq1 => ?_) (fun E M2 z2 hq => by obtain ⟨hq, -⟩ := hq; cases hq)
  obtain ⟨hr1, hA1, hO1, hz1⟩ := hq1
  cases hr1
  subst hz1
  refine g_if_eqB (tgt := 43) dX8_setPlan_36 (by decide)  (fun _ => ?_) (fun h36 => absurd h36 (by decide))
  refine g_aload_0 dX8_setPlan_43 ?_
  refine g_iload_1 dX8_setPlan_44 ?_
  refine g_iload_2 dX8_setPlan_45 ?_
  refine g_iconst (v := nI 1) dX8_setPlan_46 rfl ?_
  refine g_iadd dX8_setPlan_47 ?_
  refine g_v2 dX8_setPlan_48 (vX8_221 rfl) rfl hA1.1 (Nat.le_of_ble_eq_true rfl) (Nat.le_of_ble_eq_true rfl) (Nat.le_of_ble_eq_true rfl) (m_change hA1 (by rw [upd_ne (by decide)]; exact h12) hn14 (by omega)) (fun r2 M2 z2 hq2 => ?_) (fun E M2 z2 hq => by obtain ⟨hq, -⟩ := hq; cases hq)
  obtain ⟨hr2, hA2, hO2, hz2⟩ := hq2
  cases hr2
  subst hz2
  have hr2 := (hr.i0 (v := nI 0)).rem
  have hO2 := hO1.tr hO2
  have h02 : upd (upd I 0 (nI 0)) 12 (nI (remN n)) 0 = nI 0 := (upd_ne (by decide)).trans upd_eq
  refine g_iconst (v := nI 1) dX8_setPlan_51 rfl ?_
  refine g_isub dX8_setPlan_52 ?_
  exact g_ireturn rfl rfl dX8_setPlan_53 (Nat.le_of_ble_eq_true rfl) (Nat.le_of_ble_eq_true rfl) ⟨rfl, ⟨_, _, hA2, h02, hr2.r1⟩, hO2, rfl⟩
theorem n_setHeight_x1 (hA : MAt M b I A) (hr : MRel I A f t n h sv len g) (hx : x < nI 1 ∨ nI 9 < x) : Runs mX8_setHeight [.ref b, .int x] M z (MoQ (some (.int (nI 0))) 1 M b (f) (t) n h sv len g z) := by
  obtain ⟨rfl, rfl, h12, hn14, h9, ⟨h11, h10⟩, h16, hl, hT⟩ := id hr
  refine runs_of plX8 rfl (Nat.le_of_ble_eq_true rfl) ?_
  show WP mX8_setHeight 0 [some (.ref b), some (.int x)] [] M z 0 0 _
  refine g_aload_0 dX8_setHeight_0 ?_
  refine g_iload_1 dX8_setHeight_1 ?_
  refine g_i2l dX8_setHeight_2 ?_
  refine g_lconst (vl := 1) dX8_setHeight_3 rfl ?_
  refine g_ldc2 dX8_setHeight_4 (zX8_226 rfl) ?_
  refine g_s3_1 dX8_setHeight_7 (sX8_53 rfl) rfl (Nat.le_of_ble_eq_true rfl) ⟨rfl, rfl⟩ (Nat.le_of_ble_eq_true rfl) (Nat.le_of_ble_eq_true rfl) (m_in_x (lo := 1) (hi := 9) hx (by omega) (by omega) rfl rfl) ?_
  refine g_if_eqB (tgt := 17) dX8_setHeight_10 (by decide)  (fun _ => ?_) (fun h10 => absurd h10 (by decide))
  refine g_iconst (v := nI 1) dX8_setHeight_17 rfl ?_
  refine g_v1 dX8_setHeight_18 (vX8_149 rfl) rfl hA.1 (Nat.le_of_ble_eq_true rfl) (Nat.le_of_ble_eq_true rfl) (Nat.le_of_ble_eq_true rfl) (m_refk hA (by omega) (by omega)) (fun r1 M1 z1 hq1 => ?_) (fun E M2 z2 hq => by obtain ⟨hq, -⟩ := hq; cases hq)
  obtain ⟨hr1, hA1, hO1, hz1⟩ := hq1
  cases hr1
  subst hz1
  refine g_if_eqB (tgt := 28) dX8_setHeight_21 (by decide)  (fun h21 => absurd h21 (by decide)) (fun _ => ?_)
  refine g_iconst (v := nI 0) dX8_setHeight_24 rfl ?_
  refine g_goto (tgt := 36) dX8_setHeight_25 (by decide) ?_
  exact g_ireturn rfl rfl dX8_setHeight_36 (Nat.le_of_ble_eq_true rfl) (Nat.le_of_ble_eq_true rfl) ⟨rfl, ⟨_, _, hA1, upd_eq, hr.i0⟩, hO1, rfl⟩
theorem n_setHeight (hA : MAt M b I A) (hr : MRel I A f t n h sv len g) (h1 : 1 ≤ m) (h2 : m ≤ 9) : Runs mX8_setHeight [.ref b, .int (nI m)] M z (MoQ (some (.int (f 460))) 0 M b (upd f 460 (nI m)) (t) (remN n) (remH n h f) sv len g z) := by
  obtain ⟨rfl, rfl, h12, hn14, h9, ⟨h11, h10⟩, h16, hl, hT⟩ := id hr
  refine runs_of plX8 rfl (Nat.le_of_ble_eq_true rfl) ?_
  show WP mX8_setHeight 0 [some (.ref b), some (.int (nI m))] [] M z 0 0 _
  refine g_aload_0 dX8_setHeight_0 ?_
  refine g_iload_1 dX8_setHeight_1 ?_
  refine g_i2l dX8_setHeight_2 ?_
  refine g_lconst (vl := 1) dX8_setHeight_3 rfl ?_
  refine g_ldc2 dX8_setHeight_4 (zX8_226 rfl) ?_
  refine g_s3_1 dX8_setHeight_7 (sX8_53 rfl) rfl (Nat.le_of_ble_eq_true rfl) ⟨rfl, rfl⟩ (Nat.le_of_ble_eq_true rfl) (Nat.le_of_ble_eq_true rfl) (m_in_ok (lo := 1) (hi := 9) (by omega) (by omega) (by omega) rfl rfl) ?_
  refine g_if_eqB (tgt := 17) dX8_setHeight_10 (by decide)  (fun h10 => absurd h10 (by decide)) (fun _ => ?_)
  refine g_iconst (v := nI 0) dX8_setHeight_13 rfl ?_
  refine g_goto (tgt := 18) dX8_setHeight_14 (by decide) ?_
  refine g_v1 dX8_setHeight_18 (vX8_149 rfl) rfl hA.1 (Nat.le_of_ble_eq_true rfl) (Nat.le_of_ble_eq_true rfl) (Nat.le_of_ble_eq_true rfl) (m_ref0 hA) (fun r1 M1 z1 hq1 => ?_) (fun E M2 z2 hq => by obtain ⟨hq, -⟩ := hq; cases hq)
  obtain ⟨hr1, hA1, hO1, hz1⟩ := hq1
  cases hr1
  subst hz1
  refine g_if_eqB (tgt := 28) dX8_setHeight_21 (by decide)  (fun _ => ?_) (fun h21 => absurd h21 (by decide))
  refine g_aload_0 dX8_setHeight_28 ?_
  refine g_sipush (v := nI 460) dX8_setHeight_29 rfl ?_
  refine g_iload_1 dX8_setHeight_32 ?_
  refine g_v2 dX8_setHeight_33 (vX8_221 rfl) rfl hA1.1 (Nat.le_of_ble_eq_true rfl) (Nat.le_of_ble_eq_true rfl) (Nat.le_of_ble_eq_true rfl) (m_change hA1 (by rw [upd_ne (by decide)]; exact h12) hn14 (by decide)) (fun r2 M2 z2 hq2 => ?_) (fun E M2 z2 hq => by obtain ⟨hq, -⟩ := hq; cases hq)
  obtain ⟨hr2, hA2, hO2, hz2⟩ := hq2
  cases hr2
  subst hz2
  have hr2 := (hr.i0 (v := nI 0)).rem
  have hO2 := hO1.tr hO2
  have h02 : upd (upd I 0 (nI 0)) 12 (nI (remN n)) 0 = nI 0 := (upd_ne (by decide)).trans upd_eq
  exact g_ireturn rfl rfl dX8_setHeight_36 (Nat.le_of_ble_eq_true rfl) (Nat.le_of_ble_eq_true rfl) ⟨rfl, ⟨_, _, hA2, h02, hr2.r1⟩, hO2, rfl⟩
theorem n_thread_x1 (hA : MAt M b I A) (hr : MRel I A f t n h sv len g) (hx : x < 0 ∨ nI 5 ≤ x) : Runs mX8_thread [.ref b, .int x] M z (MoQ (some (.int (nI 0))) 1 M b (f) (t) n h sv len g z) := by
  obtain ⟨rfl, rfl, h12, hn14, h9, ⟨h11, h10⟩, h16, hl, hT⟩ := id hr
  refine runs_of plX8 rfl (Nat.le_of_ble_eq_true rfl) ?_
  show WP mX8_thread 0 [some (.ref b), some (.int x), none] [] M z 0 0 _
  refine g_iload_1 dX8_thread_0 ?_
  refine g_s1_1 dX8_thread_1 (sX8_189 rfl) rfl (Nat.le_of_ble_eq_true rfl) ⟨rfl, rfl⟩ (Nat.le_of_ble_eq_true rfl) (Nat.le_of_ble_eq_true rfl) (m_isCol_x hx) ?_
  refine g_istore_2 rfl dX8_thread_4 ?_
  refine g_aload_0 dX8_thread_5 ?_
  refine g_iload_2 dX8_thread_6 ?_
  refine g_if_neB (tgt := 14) dX8_thread_7 (by decide)  (fun h7 => absurd h7 (by decide)) (fun _ => ?_)
  refine g_iconst (v := nI 1) dX8_thread_10 rfl ?_
  refine g_goto (tgt := 33) dX8_thread_11 (by decide) ?_
  refine g_v1 dX8_thread_33 (vX8_149 rfl) rfl hA.1 (Nat.le_of_ble_eq_true rfl) (Nat.le_of_ble_eq_true rfl) (Nat.le_of_ble_eq_true rfl) (m_refk hA (by omega) (by omega)) (fun r1 M1 z1 hq1 => ?_) (fun E M2 z2 hq => by obtain ⟨hq, -⟩ := hq; cases hq)
  obtain ⟨hr1, hA1, hO1, hz1⟩ := hq1
  cases hr1
  subst hz1
  refine g_if_eqB (tgt := 41) dX8_thread_36 (by decide)  (fun h36 => absurd h36 (by decide)) (fun _ => ?_)
  refine g_iconst (v := nI 0) dX8_thread_39 rfl ?_
  exact g_ireturn rfl rfl dX8_thread_40 (Nat.le_of_ble_eq_true rfl) (Nat.le_of_ble_eq_true rfl) ⟨rfl, ⟨_, _, hA1, upd_eq, hr.i0⟩, hO1, rfl⟩
theorem n_thread_x2 (hA : MAt M b I A) (hr : MRel I A f t n h sv len g) (hc : c < 5) (h20 : ¬ nI 20 ≤ f (432 + 5 * c)) : Runs mX8_thread [.ref b, .int (nI c)] M z (MoQ (some (.int (nI 0))) 2 M b (f) (t) n h sv len g z) := by
  obtain ⟨rfl, rfl, h12, hn14, h9, ⟨h11, h10⟩, h16, hl, hT⟩ := id hr
  refine runs_of plX8 rfl (Nat.le_of_ble_eq_true rfl) ?_
  show WP mX8_thread 0 [some (.ref b), some (.int (nI c)), none] [] M z 0 0 _
  refine g_iload_1 dX8_thread_0 ?_
  refine g_s1_1 dX8_thread_1 (sX8_189 rfl) rfl (Nat.le_of_ble_eq_true rfl) ⟨rfl, rfl⟩ (Nat.le_of_ble_eq_true rfl) (Nat.le_of_ble_eq_true rfl) (m_isCol_ok hc) ?_
  refine g_istore_2 rfl dX8_thread_4 ?_
  refine g_aload_0 dX8_thread_5 ?_
  refine g_iload_2 dX8_thread_6 ?_
  refine g_if_neB (tgt := 14) dX8_thread_7 (by decide)  (fun _ => ?_) (fun h7 => absurd h7 (by decide))
  refine g_aload_0 dX8_thread_14 ?_
  refine g_get dX8_thread_15 (fX8_7 rfl) hA.1 rfl ?_
  refine g_iload_1 dX8_thread_18 ?_
  refine g_iconst (v := nI 0) dX8_thread_19 rfl ?_
  refine g_s3_1 dX8_thread_20 (sX8_65 rfl) rfl (Nat.le_of_ble_eq_true rfl) ⟨rfl, rfl⟩ (Nat.le_of_ble_eq_true rfl) (Nat.le_of_ble_eq_true rfl) (m_cone (n := 0) hA.2.1 hc (by omega)) ?_
  refine g_bipush (v := nI 20) dX8_thread_23 rfl ?_
  refine g_icmp_ge (tgt := 32) dX8_thread_25 (by decide)  (fun h25 => absurd h25 h20) (fun _ => ?_)
  refine g_iconst (v := nI 2) dX8_thread_28 rfl ?_
  refine g_goto (tgt := 33) dX8_thread_29 (by decide) ?_
  refine g_v1 dX8_thread_33 (vX8_149 rfl) rfl hA.1 (Nat.le_of_ble_eq_true rfl) (Nat.le_of_ble_eq_true rfl) (Nat.le_of_ble_eq_true rfl) (m_refk hA (by omega) (by omega)) (fun r1 M1 z1 hq1 => ?_) (fun E M2 z2 hq => by obtain ⟨hq, -⟩ := hq; cases hq)
  obtain ⟨hr1, hA1, hO1, hz1⟩ := hq1
  cases hr1
  subst hz1
  refine g_if_eqB (tgt := 41) dX8_thread_36 (by decide)  (fun h36 => absurd h36 (by decide)) (fun _ => ?_)
  refine g_iconst (v := nI 0) dX8_thread_39 rfl ?_
  exact g_ireturn rfl rfl dX8_thread_40 (Nat.le_of_ble_eq_true rfl) (Nat.le_of_ble_eq_true rfl) ⟨rfl, ⟨_, _, hA1, upd_eq, hr.i0⟩, hO1, rfl⟩
theorem n_thread (hA : MAt M b I A) (hr : MRel I A f t n h sv len g) (hI : Rng f) (hc : c < 5) (h20 : nI 20 ≤ f (432 + 5 * c)) : Runs mX8_thread [.ref b, .int (nI c)] M z (MoQ (some (.int (f_thread f c (432 + 5 * c)))) 0 M b (f_thread f c) (t) (remN n) (remH n h f) sv len g z) := by
  obtain ⟨rfl, rfl, h12, hn14, h9, ⟨h11, h10⟩, h16, hl, hT⟩ := id hr
  refine runs_of plX8 rfl (Nat.le_of_ble_eq_true rfl) ?_
  show WP mX8_thread 0 [some (.ref b), some (.int (nI c)), none] [] M z 0 0 _
  refine g_iload_1 dX8_thread_0 ?_
  refine g_s1_1 dX8_thread_1 (sX8_189 rfl) rfl (Nat.le_of_ble_eq_true rfl) ⟨rfl, rfl⟩ (Nat.le_of_ble_eq_true rfl) (Nat.le_of_ble_eq_true rfl) (m_isCol_ok hc) ?_
  refine g_istore_2 rfl dX8_thread_4 ?_
  refine g_aload_0 dX8_thread_5 ?_
  refine g_iload_2 dX8_thread_6 ?_
  refine g_if_neB (tgt := 14) dX8_thread_7 (by decide)  (fun _ => ?_) (fun h7 => absurd h7 (by decide))
  refine g_aload_0 dX8_thread_14 ?_
  refine g_get dX8_thread_15 (fX8_7 rfl) hA.1 rfl ?_
  refine g_iload_1 dX8_thread_18 ?_
  refine g_iconst (v := nI 0) dX8_thread_19 rfl ?_
  refine g_s3_1 dX8_thread_20 (sX8_65 rfl) rfl (Nat.le_of_ble_eq_true rfl) ⟨rfl, rfl⟩ (Nat.le_of_ble_eq_true rfl) (Nat.le_of_ble_eq_true rfl) (m_cone (n := 0) hA.2.1 hc (by omega)) ?_
  refine g_bipush (v := nI 20) dX8_thread_23 rfl ?_
  refine g_icmp_ge (tgt := 32) dX8_thread_25 (by decide)  (fun _ => ?_) (fun h25 => absurd h20 h25)
  refine g_iconst (v := nI 0) dX8_thread_32 rfl ?_
  refine g_v1 dX8_thread_33 (vX8_149 rfl) rfl hA.1 (Nat.le_of_ble_eq_true rfl) (Nat.le_of_ble_eq_true rfl) (Nat.le_of_ble_eq_true rfl) (m_ref0 hA) (fun r1 M1 z1 hq1 => ?_) (fun E M2 z2 hq => by obtain ⟨hq, -⟩ := hq; cases hq)
  obtain ⟨hr1, hA1, hO1, hz1⟩ := hq1
  cases hr1
  subst hz1
  refine g_if_eqB (tgt := 41) dX8_thread_36 (by decide)  (fun _ => ?_) (fun h36 => absurd h36 (by decide))
  refine g_aload_0 dX8_thread_41 ?_
  refine g_v0 dX8_thread_42 (vX8_141 rfl) rfl hA1.1 (Nat.le_of_ble_eq_true rfl) (Nat.le_of_ble_eq_true rfl) (Nat.le_of_ble_eq_true rfl) (m_remember hA1 (by rw [upd_ne (by decide)]; exact h12) hn14) (fun r2 M2 z2 hq2 => ?_) (fun E M2 z2 hq => by obtain ⟨hq, -⟩ := hq; cases hq)
  obtain ⟨hr2, hA2, hO2, hz2⟩ := hq2
  cases hr2
  subst hz2
  have hr2 := (hr.i0 (v := nI 0)).rem
  have hR2 : RowAt M2 (b + 1) (A 1) := hA2.2.1
  have hO2 := hO1.tr hO2
  have h02 : upd (upd I 0 (nI 0)) 12 (nI (remN n)) 0 = nI 0 := (upd_ne (by decide)).trans upd_eq
  refine g_aload_0 dX8_thread_45 ?_
  refine g_get dX8_thread_46 (fX8_7 rfl) hA2.1 rfl ?_
  refine g_iload_1 dX8_thread_49 ?_
  refine g_s2_1 dX8_thread_50 (sX8_127 rfl) rfl (Nat.le_of_ble_eq_true rfl) ⟨rfl, rfl⟩ (Nat.le_of_ble_eq_true rfl) (Nat.le_of_ble_eq_true rfl) (m_goThread hR2 hI hc) ?_
  exact g_ireturn rfl rfl dX8_thread_53 (Nat.le_of_ble_eq_true rfl) (Nat.le_of_ble_eq_true rfl) ⟨rfl, ⟨_, _, hA2.a1, h02, hr2.r1⟩, hO2.tr (Out.put (by omega) (by omega)), rfl⟩
theorem n_cut_x1 (hA : MAt M b I A) (hr : MRel I A f t n h sv len g) (hI : Rng f) (ht : tno f = 0) : Runs mX8_cut [.ref b] M z (MoQ (some (.int (nI 0))) 1 M b (f) (t) n h sv len g z) := by
  obtain ⟨rfl, rfl, h12, hn14, h9, ⟨h11, h10⟩, h16, hl, hT⟩ := id hr
  have htl := hI.tlt
  refine runs_of plX8 rfl (Nat.le_of_ble_eq_true rfl) ?_
  show WP mX8_cut 0 [some (.ref b)] [] M z 0 0 _
  refine g_aload_0 dX8_cut_0 ?_
  refine g_aload_0 dX8_cut_1 ?_
  refine g_get dX8_cut_2 (fX8_7 rfl) hA.1 rfl ?_
  refine g_sipush (v := nI 459) dX8_cut_5 rfl ?_
  refine g_ialdN dX8_cut_8 hA.2.1 (by omega) (by decide) ?_
  rw [show A 1 459 = nI (tno (A 1)) from hI.2.2.2.2.1.2.2.1.1]
  refine g_if_neN (tgt := 16) dX8_cut_9 (by decide) (by omega) (fun h9 => absurd ht h9) (fun _ => ?_)
  refine g_iconst (v := nI 1) dX8_cut_12 rfl ?_
  refine g_goto (tgt := 17) dX8_cut_13 (by decide) ?_
  refine g_v1 dX8_cut_17 (vX8_149 rfl) rfl hA.1 (Nat.le_of_ble_eq_true rfl) (Nat.le_of_ble_eq_true rfl) (Nat.le_of_ble_eq_true rfl) (m_refk hA (by omega) (by omega)) (fun r1 M1 z1 hq1 => ?_) (fun E M2 z2 hq => by obtain ⟨hq, -⟩ := hq; cases hq)
  obtain ⟨hr1, hA1, hO1, hz1⟩ := hq1
  cases hr1
  subst hz1
  refine g_if_eqB (tgt := 25) dX8_cut_20 (by decide)  (fun h20 => absurd h20 (by decide)) (fun _ => ?_)
  refine g_iconst (v := nI 0) dX8_cut_23 rfl ?_
  exact g_ireturn rfl rfl dX8_cut_24 (Nat.le_of_ble_eq_true rfl) (Nat.le_of_ble_eq_true rfl) ⟨rfl, ⟨_, _, hA1, upd_eq, hr.i0⟩, hO1, rfl⟩
theorem n_cut (hA : MAt M b I A) (hr : MRel I A f t n h sv len g) (hI : Rng f) (ht : 0 < tno f) : Runs mX8_cut [.ref b] M z (MoQ (some (.int (nI (tno f - 1)))) 0 M b (f_cut f) (t) (remN n) (remH n h f) sv len g z) := by
  obtain ⟨rfl, rfl, h12, hn14, h9, ⟨h11, h10⟩, h16, hl, hT⟩ := id hr
  have htl := hI.tlt
  refine runs_of plX8 rfl (Nat.le_of_ble_eq_true rfl) ?_
  show WP mX8_cut 0 [some (.ref b)] [] M z 0 0 _
  refine g_aload_0 dX8_cut_0 ?_
  refine g_aload_0 dX8_cut_1 ?_
  refine g_get dX8_cut_2 (fX8_7 rfl) hA.1 rfl ?_
  refine g_sipush (v := nI 459) dX8_cut_5 rfl ?_
  refine g_ialdN dX8_cut_8 hA.2.1 (by omega) (by decide) ?_
  rw [show A 1 459 = nI (tno (A 1)) from hI.2.2.2.2.1.2.2.1.1]
  refine g_if_neN (tgt := 16) dX8_cut_9 (by decide) (by omega) (fun _ => ?_) (fun h9 => absurd h9 (by omega))
  refine g_iconst (v := nI 0) dX8_cut_16 rfl ?_
  refine g_v1 dX8_cut_17 (vX8_149 rfl) rfl hA.1 (Nat.le_of_ble_eq_true rfl) (Nat.le_of_ble_eq_true rfl) (Nat.le_of_ble_eq_true rfl) (m_ref0 hA) (fun r1 M1 z1 hq1 => ?_) (fun E M2 z2 hq => by obtain ⟨hq, -⟩ := hq; cases hq)
  obtain ⟨hr1, hA1, hO1, hz1⟩ := hq1
  cases hr1
  subst hz1
  refine g_if_eqB (tgt := 25) dX8_cut_20 (by decide)  (fun _ => ?_) (fun h20 => absurd h20 (by decide))
  refine g_aload_0 dX8_cut_25 ?_
  refine g_v0 dX8_cut_26 (vX8_141 rfl) rfl hA1.1 (Nat.le_of_ble_eq_true rfl) (Nat.le_of_ble_eq_true rfl) (Nat.le_of_ble_eq_true rfl) (m_remember hA1 (by rw [upd_ne (by decide)]; exact h12) hn14) (fun r2 M2 z2 hq2 => ?_) (fun E M2 z2 hq => by obtain ⟨hq, -⟩ := hq; cases hq)
  obtain ⟨hr2, hA2, hO2, hz2⟩ := hq2
  cases hr2
  subst hz2
  have hr2 := (hr.i0 (v := nI 0)).rem
  have hR2 : RowAt M2 (b + 1) (A 1) := hA2.2.1
  have hO2 := hO1.tr hO2
  have h02 : upd (upd I 0 (nI 0)) 12 (nI (remN n)) 0 = nI 0 := (upd_ne (by decide)).trans upd_eq
  refine g_aload_0 dX8_cut_29 ?_
  refine g_get dX8_cut_30 (fX8_7 rfl) hA2.1 rfl ?_
  refine g_s1_1 dX8_cut_33 (sX8_79 rfl) rfl (Nat.le_of_ble_eq_true rfl) ⟨rfl, rfl⟩ (Nat.le_of_ble_eq_true rfl) (Nat.le_of_ble_eq_true rfl) (m_goCut (c := tno (A 1) - 1) hR2 hI (by omega)) ?_
  exact g_ireturn rfl rfl dX8_cut_36 (Nat.le_of_ble_eq_true rfl) (Nat.le_of_ble_eq_true rfl) ⟨rfl, ⟨_, _, hA2.a1, h02, hr2.r1⟩, hO2.tr (Out.put (by omega) (by omega)), rfl⟩
theorem n_ease_x1 (hA : MAt M b I A) (hr : MRel I A f t n h sv len g) (hI : Rng f) (ht : tno f = 0) : Runs mX8_ease [.ref b] M z (MoQ (some (.int (nI 0))) 1 M b (f) (t) n h sv len g z) := by
  obtain ⟨rfl, rfl, h12, hn14, h9, ⟨h11, h10⟩, h16, hl, hT⟩ := id hr
  have htl := hI.tlt
  refine runs_of plX8 rfl (Nat.le_of_ble_eq_true rfl) ?_
  show WP mX8_ease 0 [some (.ref b)] [] M z 0 0 _
  refine g_aload_0 dX8_ease_0 ?_
  refine g_aload_0 dX8_ease_1 ?_
  refine g_get dX8_ease_2 (fX8_7 rfl) hA.1 rfl ?_
  refine g_sipush (v := nI 459) dX8_ease_5 rfl ?_
  refine g_ialdN dX8_ease_8 hA.2.1 (by omega) (by decide) ?_
  rw [show A 1 459 = nI (tno (A 1)) from hI.2.2.2.2.1.2.2.1.1]
  refine g_if_neN (tgt := 16) dX8_ease_9 (by decide) (by omega) (fun h9 => absurd ht h9) (fun _ => ?_)
  refine g_iconst (v := nI 1) dX8_ease_12 rfl ?_
  refine g_goto (tgt := 17) dX8_ease_13 (by decide) ?_
  refine g_v1 dX8_ease_17 (vX8_149 rfl) rfl hA.1 (Nat.le_of_ble_eq_true rfl) (Nat.le_of_ble_eq_true rfl) (Nat.le_of_ble_eq_true rfl) (m_refk hA (by omega) (by omega)) (fun r1 M1 z1 hq1 => ?_) (fun E M2 z2 hq => by obtain ⟨hq, -⟩ := hq; cases hq)
  obtain ⟨hr1, hA1, hO1, hz1⟩ := hq1
  cases hr1
  subst hz1
  refine g_if_eqB (tgt := 25) dX8_ease_20 (by decide)  (fun h20 => absurd h20 (by decide)) (fun _ => ?_)
  refine g_iconst (v := nI 0) dX8_ease_23 rfl ?_
  exact g_ireturn rfl rfl dX8_ease_24 (Nat.le_of_ble_eq_true rfl) (Nat.le_of_ble_eq_true rfl) ⟨rfl, ⟨_, _, hA1, upd_eq, hr.i0⟩, hO1, rfl⟩
theorem n_ease (hA : MAt M b I A) (hr : MRel I A f t n h sv len g) (hI : Rng f) (ht : 0 < tno f) : Runs mX8_ease [.ref b] M z (MoQ (some (.int (f 461))) 0 M b (f_ease f) (t) (remN n) (remH n h f) sv len g z) := by
  obtain ⟨rfl, rfl, h12, hn14, h9, ⟨h11, h10⟩, h16, hl, hT⟩ := id hr
  have htl := hI.tlt
  refine runs_of plX8 rfl (Nat.le_of_ble_eq_true rfl) ?_
  show WP mX8_ease 0 [some (.ref b)] [] M z 0 0 _
  refine g_aload_0 dX8_ease_0 ?_
  refine g_aload_0 dX8_ease_1 ?_
  refine g_get dX8_ease_2 (fX8_7 rfl) hA.1 rfl ?_
  refine g_sipush (v := nI 459) dX8_ease_5 rfl ?_
  refine g_ialdN dX8_ease_8 hA.2.1 (by omega) (by decide) ?_
  rw [show A 1 459 = nI (tno (A 1)) from hI.2.2.2.2.1.2.2.1.1]
  refine g_if_neN (tgt := 16) dX8_ease_9 (by decide) (by omega) (fun _ => ?_) (fun h9 => absurd h9 (by omega))
  refine g_iconst (v := nI 0) dX8_ease_16 rfl ?_
  refine g_v1 dX8_ease_17 (vX8_149 rfl) rfl hA.1 (Nat.le_of_ble_eq_true rfl) (Nat.le_of_ble_eq_true rfl) (Nat.le_of_ble_eq_true rfl) (m_ref0 hA) (fun r1 M1 z1 hq1 => ?_) (fun E M2 z2 hq => by obtain ⟨hq, -⟩ := hq; cases hq)
  obtain ⟨hr1, hA1, hO1, hz1⟩ := hq1
  cases hr1
  subst hz1
  refine g_if_eqB (tgt := 25) dX8_ease_20 (by decide)  (fun _ => ?_) (fun h20 => absurd h20 (by decide))
  refine g_aload_0 dX8_ease_25 ?_
  refine g_v0 dX8_ease_26 (vX8_141 rfl) rfl hA1.1 (Nat.le_of_ble_eq_true rfl) (Nat.le_of_ble_eq_true rfl) (Nat.le_of_ble_eq_true rfl) (m_remember hA1 (by rw [upd_ne (by decide)]; exact h12) hn14) (fun r2 M2 z2 hq2 => ?_) (fun E M2 z2 hq => by obtain ⟨hq, -⟩ := hq; cases hq)
  obtain ⟨hr2, hA2, hO2, hz2⟩ := hq2
  cases hr2
  subst hz2
  have hr2 := (hr.i0 (v := nI 0)).rem
  have hR2 : RowAt M2 (b + 1) (A 1) := hA2.2.1
  have hO2 := hO1.tr hO2
  have h02 : upd (upd I 0 (nI 0)) 12 (nI (remN n)) 0 = nI 0 := (upd_ne (by decide)).trans upd_eq
  refine g_aload_0 dX8_ease_29 ?_
  refine g_get dX8_ease_30 (fX8_7 rfl) hA2.1 rfl ?_
  refine g_s1_1 dX8_ease_33 (sX8_124 rfl) rfl (Nat.le_of_ble_eq_true rfl) ⟨rfl, rfl⟩ (Nat.le_of_ble_eq_true rfl) (Nat.le_of_ble_eq_true rfl) (m_goEase (c := tno (A 1) - 1) hR2 hI (by omega)) ?_
  exact g_ireturn rfl rfl dX8_ease_36 (Nat.le_of_ble_eq_true rfl) (Nat.le_of_ble_eq_true rfl) ⟨rfl, ⟨_, _, hA2.a1, h02, hr2.r1⟩, hO2.tr (Out.put (by omega) (by omega)), rfl⟩
theorem n_sew_x1 (hA : MAt M b I A) (hr : MRel I A f t n h sv len g) (hx : x < nI 1 ∨ nI 12 < x) : Runs mX8_sew [.ref b, .int x] M z (MoQ (some (.int (nI 0))) 1 M b (f) (t) n h sv len g z) := by
  obtain ⟨rfl, rfl, h12, hn14, h9, ⟨h11, h10⟩, h16, hl, hT⟩ := id hr
  refine runs_of plX8 rfl (Nat.le_of_ble_eq_true rfl) ?_
  show WP mX8_sew 0 [some (.ref b), some (.int x)] [] M z 0 0 _
  refine g_aload_0 dX8_sew_0 ?_
  refine g_iload_1 dX8_sew_1 ?_
  refine g_i2l dX8_sew_2 ?_
  refine g_lconst (vl := 1) dX8_sew_3 rfl ?_
  refine g_ldc2 dX8_sew_4 (zX8_224 rfl) ?_
  refine g_s3_1 dX8_sew_7 (sX8_53 rfl) rfl (Nat.le_of_ble_eq_true rfl) ⟨rfl, rfl⟩ (Nat.le_of_ble_eq_true rfl) (Nat.le_of_ble_eq_true rfl) (m_in_x (lo := 1) (hi := 12) hx (by omega) (by omega) rfl rfl) ?_
  refine g_if_neB (tgt := 17) dX8_sew_10 (by decide)  (fun h10 => absurd h10 (by decide)) (fun _ => ?_)
  refine g_iconst (v := nI 1) dX8_sew_13 rfl ?_
  refine g_goto (tgt := 32) dX8_sew_14 (by decide) ?_
  refine g_v1 dX8_sew_32 (vX8_149 rfl) rfl hA.1 (Nat.le_of_ble_eq_true rfl) (Nat.le_of_ble_eq_true rfl) (Nat.le_of_ble_eq_true rfl) (m_refk hA (by omega) (by omega)) (fun r1 M1 z1 hq1 => ?_) (fun E M2 z2 hq => by obtain ⟨hq, -⟩ := hq; cases hq)
  obtain ⟨hr1, hA1, hO1, hz1⟩ := hq1
  cases hr1
  subst hz1
  refine g_if_eqB (tgt := 40) dX8_sew_35 (by decide)  (fun h35 => absurd h35 (by decide)) (fun _ => ?_)
  refine g_iconst (v := nI 0) dX8_sew_38 rfl ?_
  exact g_ireturn rfl rfl dX8_sew_39 (Nat.le_of_ble_eq_true rfl) (Nat.le_of_ble_eq_true rfl) ⟨rfl, ⟨_, _, hA1, upd_eq, hr.i0⟩, hO1, rfl⟩
theorem n_sew_x2 (hA : MAt M b I A) (hr : MRel I A f t n h sv len g) (hI : Rng f) (h1 : 1 ≤ m) (h2 : m ≤ 12) (h0 : ¬ f_noStitch f = 0) : Runs mX8_sew [.ref b, .int (nI m)] M z (MoQ (some (.int (nI 0))) 2 M b (f) (t) n h sv len g z) := by
  obtain ⟨rfl, rfl, h12, hn14, h9, ⟨h11, h10⟩, h16, hl, hT⟩ := id hr
  have hst := noSt_lt (A 1)
  refine runs_of plX8 rfl (Nat.le_of_ble_eq_true rfl) ?_
  show WP mX8_sew 0 [some (.ref b), some (.int (nI m))] [] M z 0 0 _
  refine g_aload_0 dX8_sew_0 ?_
  refine g_iload_1 dX8_sew_1 ?_
  refine g_i2l dX8_sew_2 ?_
  refine g_lconst (vl := 1) dX8_sew_3 rfl ?_
  refine g_ldc2 dX8_sew_4 (zX8_224 rfl) ?_
  refine g_s3_1 dX8_sew_7 (sX8_53 rfl) rfl (Nat.le_of_ble_eq_true rfl) ⟨rfl, rfl⟩ (Nat.le_of_ble_eq_true rfl) (Nat.le_of_ble_eq_true rfl) (m_in_ok (lo := 1) (hi := 12) (by omega) (by omega) (by omega) rfl rfl) ?_
  refine g_if_neB (tgt := 17) dX8_sew_10 (by decide)  (fun _ => ?_) (fun h10 => absurd h10 (by decide))
  refine g_aload_0 dX8_sew_17 ?_
  refine g_get dX8_sew_18 (fX8_7 rfl) hA.1 rfl ?_
  refine g_s1_1 dX8_sew_21 (sX8_95 rfl) rfl (Nat.le_of_ble_eq_true rfl) ⟨rfl, rfl⟩ (Nat.le_of_ble_eq_true rfl) (Nat.le_of_ble_eq_true rfl) (m_noStitch hA.2.1 hI) ?_
  refine g_if_leN (tgt := 31) dX8_sew_24 (by decide) (by omega) (fun h24 => absurd h24 h0) (fun _ => ?_)
  refine g_iconst (v := nI 2) dX8_sew_27 rfl ?_
  refine g_goto (tgt := 32) dX8_sew_28 (by decide) ?_
  refine g_v1 dX8_sew_32 (vX8_149 rfl) rfl hA.1 (Nat.le_of_ble_eq_true rfl) (Nat.le_of_ble_eq_true rfl) (Nat.le_of_ble_eq_true rfl) (m_refk hA (by omega) (by omega)) (fun r1 M1 z1 hq1 => ?_) (fun E M2 z2 hq => by obtain ⟨hq, -⟩ := hq; cases hq)
  obtain ⟨hr1, hA1, hO1, hz1⟩ := hq1
  cases hr1
  subst hz1
  refine g_if_eqB (tgt := 40) dX8_sew_35 (by decide)  (fun h35 => absurd h35 (by decide)) (fun _ => ?_)
  refine g_iconst (v := nI 0) dX8_sew_38 rfl ?_
  exact g_ireturn rfl rfl dX8_sew_39 (Nat.le_of_ble_eq_true rfl) (Nat.le_of_ble_eq_true rfl) ⟨rfl, ⟨_, _, hA1, upd_eq, hr.i0⟩, hO1, rfl⟩
theorem n_sew (hA : MAt M b I A) (hr : MRel I A f t n h sv len g) (hI : Rng f) (h1 : 1 ≤ m) (h2 : m ≤ 12) (h0 : f_noStitch f = 0) : Runs mX8_sew [.ref b, .int (nI m)] M z (MoQ (some (.int (nI (f_sew m f).2))) 0 M b ((f_sew m f).1) (t) (remN n) (remH n h f) sv len g z) := by
  obtain ⟨rfl, rfl, h12, hn14, h9, ⟨h11, h10⟩, h16, hl, hT⟩ := id hr
  have hst := noSt_lt (A 1)
  refine runs_of plX8 rfl (Nat.le_of_ble_eq_true rfl) ?_
  show WP mX8_sew 0 [some (.ref b), some (.int (nI m))] [] M z 0 0 _
  refine g_aload_0 dX8_sew_0 ?_
  refine g_iload_1 dX8_sew_1 ?_
  refine g_i2l dX8_sew_2 ?_
  refine g_lconst (vl := 1) dX8_sew_3 rfl ?_
  refine g_ldc2 dX8_sew_4 (zX8_224 rfl) ?_
  refine g_s3_1 dX8_sew_7 (sX8_53 rfl) rfl (Nat.le_of_ble_eq_true rfl) ⟨rfl, rfl⟩ (Nat.le_of_ble_eq_true rfl) (Nat.le_of_ble_eq_true rfl) (m_in_ok (lo := 1) (hi := 12) (by omega) (by omega) (by omega) rfl rfl) ?_
  refine g_if_neB (tgt := 17) dX8_sew_10 (by decide)  (fun _ => ?_) (fun h10 => absurd h10 (by decide))
  refine g_aload_0 dX8_sew_17 ?_
  refine g_get dX8_sew_18 (fX8_7 rfl) hA.1 rfl ?_
  refine g_s1_1 dX8_sew_21 (sX8_95 rfl) rfl (Nat.le_of_ble_eq_true rfl) ⟨rfl, rfl⟩ (Nat.le_of_ble_eq_true rfl) (Nat.le_of_ble_eq_true rfl) (m_noStitch hA.2.1 hI) ?_
  refine g_if_leN (tgt := 31) dX8_sew_24 (by decide) (by omega) (fun _ => ?_) (fun h24 => absurd h0 h24)
  refine g_iconst (v := nI 0) dX8_sew_31 rfl ?_
  refine g_v1 dX8_sew_32 (vX8_149 rfl) rfl hA.1 (Nat.le_of_ble_eq_true rfl) (Nat.le_of_ble_eq_true rfl) (Nat.le_of_ble_eq_true rfl) (m_ref0 hA) (fun r1 M1 z1 hq1 => ?_) (fun E M2 z2 hq => by obtain ⟨hq, -⟩ := hq; cases hq)
  obtain ⟨hr1, hA1, hO1, hz1⟩ := hq1
  cases hr1
  subst hz1
  refine g_if_eqB (tgt := 40) dX8_sew_35 (by decide)  (fun _ => ?_) (fun h35 => absurd h35 (by decide))
  refine g_aload_0 dX8_sew_40 ?_
  refine g_v0 dX8_sew_41 (vX8_141 rfl) rfl hA1.1 (Nat.le_of_ble_eq_true rfl) (Nat.le_of_ble_eq_true rfl) (Nat.le_of_ble_eq_true rfl) (m_remember hA1 (by rw [upd_ne (by decide)]; exact h12) hn14) (fun r2 M2 z2 hq2 => ?_) (fun E M2 z2 hq => by obtain ⟨hq, -⟩ := hq; cases hq)
  obtain ⟨hr2, hA2, hO2, hz2⟩ := hq2
  cases hr2
  subst hz2
  have hr2 := (hr.i0 (v := nI 0)).rem
  have hR2 : RowAt M2 (b + 1) (A 1) := hA2.2.1
  have hO2 := hO1.tr hO2
  have h02 : upd (upd I 0 (nI 0)) 12 (nI (remN n)) 0 = nI 0 := (upd_ne (by decide)).trans upd_eq
  refine g_aload_0 dX8_sew_44 ?_
  refine g_get dX8_sew_45 (fX8_7 rfl) hA2.1 rfl ?_
  refine g_iload_1 dX8_sew_48 ?_
  refine g_s2_1 dX8_sew_49 (sX8_111 rfl) rfl (Nat.le_of_ble_eq_true rfl) ⟨rfl, rfl⟩ (Nat.le_of_ble_eq_true rfl) (Nat.le_of_ble_eq_true rfl) (m_goSew hR2 hI (by omega)) ?_
  exact g_ireturn rfl rfl dX8_sew_52 (Nat.le_of_ble_eq_true rfl) (Nat.le_of_ble_eq_true rfl) ⟨rfl, ⟨_, _, hA2.a1, h02, hr2.r1⟩, hO2.tr (Out.put (by omega) (by omega)), rfl⟩
theorem n_jump_x1 (hA : MAt M b I A) (hr : MRel I A f t n h sv len g) (hx : x < nI 1 ∨ nI 12 < x) : Runs mX8_jump [.ref b, .int x] M z (MoQ (some (.int (nI 0))) 1 M b (f) (t) n h sv len g z) := by
  obtain ⟨rfl, rfl, h12, hn14, h9, ⟨h11, h10⟩, h16, hl, hT⟩ := id hr
  refine runs_of plX8 rfl (Nat.le_of_ble_eq_true rfl) ?_
  show WP mX8_jump 0 [some (.ref b), some (.int x)] [] M z 0 0 _
  refine g_aload_0 dX8_jump_0 ?_
  refine g_iload_1 dX8_jump_1 ?_
  refine g_i2l dX8_jump_2 ?_
  refine g_lconst (vl := 1) dX8_jump_3 rfl ?_
  refine g_ldc2 dX8_jump_4 (zX8_224 rfl) ?_
  refine g_s3_1 dX8_jump_7 (sX8_53 rfl) rfl (Nat.le_of_ble_eq_true rfl) ⟨rfl, rfl⟩ (Nat.le_of_ble_eq_true rfl) (Nat.le_of_ble_eq_true rfl) (m_in_x (lo := 1) (hi := 12) hx (by omega) (by omega) rfl rfl) ?_
  refine g_if_eqB (tgt := 17) dX8_jump_10 (by decide)  (fun _ => ?_) (fun h10 => absurd h10 (by decide))
  refine g_iconst (v := nI 1) dX8_jump_17 rfl ?_
  refine g_v1 dX8_jump_18 (vX8_149 rfl) rfl hA.1 (Nat.le_of_ble_eq_true rfl) (Nat.le_of_ble_eq_true rfl) (Nat.le_of_ble_eq_true rfl) (m_refk hA (by omega) (by omega)) (fun r1 M1 z1 hq1 => ?_) (fun E M2 z2 hq => by obtain ⟨hq, -⟩ := hq; cases hq)
  obtain ⟨hr1, hA1, hO1, hz1⟩ := hq1
  cases hr1
  subst hz1
  refine g_if_eqB (tgt := 26) dX8_jump_21 (by decide)  (fun h21 => absurd h21 (by decide)) (fun _ => ?_)
  refine g_iconst (v := nI 0) dX8_jump_24 rfl ?_
  exact g_ireturn rfl rfl dX8_jump_25 (Nat.le_of_ble_eq_true rfl) (Nat.le_of_ble_eq_true rfl) ⟨rfl, ⟨_, _, hA1, upd_eq, hr.i0⟩, hO1, rfl⟩
theorem n_jump (hA : MAt M b I A) (hr : MRel I A f t n h sv len g) (hI : Rng f) (h1 : 1 ≤ m) (h2 : m ≤ 12) : Runs mX8_jump [.ref b, .int (nI m)] M z (MoQ (some (.int (nI (f_jump m f).2))) 0 M b ((f_jump m f).1) (t) (remN n) (remH n h f) sv len g z) := by
  obtain ⟨rfl, rfl, h12, hn14, h9, ⟨h11, h10⟩, h16, hl, hT⟩ := id hr
  refine runs_of plX8 rfl (Nat.le_of_ble_eq_true rfl) ?_
  show WP mX8_jump 0 [some (.ref b), some (.int (nI m))] [] M z 0 0 _
  refine g_aload_0 dX8_jump_0 ?_
  refine g_iload_1 dX8_jump_1 ?_
  refine g_i2l dX8_jump_2 ?_
  refine g_lconst (vl := 1) dX8_jump_3 rfl ?_
  refine g_ldc2 dX8_jump_4 (zX8_224 rfl) ?_
  refine g_s3_1 dX8_jump_7 (sX8_53 rfl) rfl (Nat.le_of_ble_eq_true rfl) ⟨rfl, rfl⟩ (Nat.le_of_ble_eq_true rfl) (Nat.le_of_ble_eq_true rfl) (m_in_ok (lo := 1) (hi := 12) (by omega) (by omega) (by omega) rfl rfl) ?_
  refine g_if_eqB (tgt := 17) dX8_jump_10 (by decide)  (fun h10 => absurd h10 (by decide)) (fun _ => ?_)
  refine g_iconst (v := nI 0) dX8_jump_13 rfl ?_
  refine g_goto (tgt := 18) dX8_jump_14 (by decide) ?_
  refine g_v1 dX8_jump_18 (vX8_149 rfl) rfl hA.1 (Nat.le_of_ble_eq_true rfl) (Nat.le_of_ble_eq_true rfl) (Nat.le_of_ble_eq_true rfl) (m_ref0 hA) (fun r1 M1 z1 hq1 => ?_) (fun E M2 z2 hq => by obtain ⟨hq, -⟩ := hq; cases hq)
  obtain ⟨hr1, hA1, hO1, hz1⟩ := hq1
  cases hr1
  subst hz1
  refine g_if_eqB (tgt := 26) dX8_jump_21 (by decide)  (fun _ => ?_) (fun h21 => absurd h21 (by decide))
  refine g_aload_0 dX8_jump_26 ?_
  refine g_v0 dX8_jump_27 (vX8_141 rfl) rfl hA1.1 (Nat.le_of_ble_eq_true rfl) (Nat.le_of_ble_eq_true rfl) (Nat.le_of_ble_eq_true rfl) (m_remember hA1 (by rw [upd_ne (by decide)]; exact h12) hn14) (fun r2 M2 z2 hq2 => ?_) (fun E M2 z2 hq => by obtain ⟨hq, -⟩ := hq; cases hq)
  obtain ⟨hr2, hA2, hO2, hz2⟩ := hq2
  cases hr2
  subst hz2
  have hr2 := (hr.i0 (v := nI 0)).rem
  have hR2 : RowAt M2 (b + 1) (A 1) := hA2.2.1
  have hO2 := hO1.tr hO2
  have h02 : upd (upd I 0 (nI 0)) 12 (nI (remN n)) 0 = nI 0 := (upd_ne (by decide)).trans upd_eq
  refine g_aload_0 dX8_jump_30 ?_
  refine g_get dX8_jump_31 (fX8_7 rfl) hA2.1 rfl ?_
  refine g_iload_1 dX8_jump_34 ?_
  refine g_s2_1 dX8_jump_35 (sX8_114 rfl) rfl (Nat.le_of_ble_eq_true rfl) ⟨rfl, rfl⟩ (Nat.le_of_ble_eq_true rfl) (Nat.le_of_ble_eq_true rfl) (m_goJump hR2 hI (by omega)) ?_
  exact g_ireturn rfl rfl dX8_jump_38 (Nat.le_of_ble_eq_true rfl) (Nat.le_of_ble_eq_true rfl) ⟨rfl, ⟨_, _, hA2.a1, h02, hr2.r1⟩, hO2.tr (Out.put (by omega) (by omega)), rfl⟩
theorem n_shear_x1 (hA : MAt M b I A) (hr : MRel I A f t n h sv len g) (hx : x < nI 1 ∨ nI 9 < x) : Runs mX8_shear [.ref b, .int x] M z (MoQ (some (.int (nI 0))) 1 M b (f) (t) n h sv len g z) := by
  obtain ⟨rfl, rfl, h12, hn14, h9, ⟨h11, h10⟩, h16, hl, hT⟩ := id hr
  refine runs_of plX8 rfl (Nat.le_of_ble_eq_true rfl) ?_
  show WP mX8_shear 0 [some (.ref b), some (.int x)] [] M z 0 0 _
  refine g_aload_0 dX8_shear_0 ?_
  refine g_iload_1 dX8_shear_1 ?_
  refine g_i2l dX8_shear_2 ?_
  refine g_lconst (vl := 1) dX8_shear_3 rfl ?_
  refine g_ldc2 dX8_shear_4 (zX8_226 rfl) ?_
  refine g_s3_1 dX8_shear_7 (sX8_53 rfl) rfl (Nat.le_of_ble_eq_true rfl) ⟨rfl, rfl⟩ (Nat.le_of_ble_eq_true rfl) (Nat.le_of_ble_eq_true rfl) (m_in_x (lo := 1) (hi := 9) hx (by omega) (by omega) rfl rfl) ?_
  refine g_if_eqB (tgt := 17) dX8_shear_10 (by decide)  (fun _ => ?_) (fun h10 => absurd h10 (by decide))
  refine g_iconst (v := nI 1) dX8_shear_17 rfl ?_
  refine g_v1 dX8_shear_18 (vX8_149 rfl) rfl hA.1 (Nat.le_of_ble_eq_true rfl) (Nat.le_of_ble_eq_true rfl) (Nat.le_of_ble_eq_true rfl) (m_refk hA (by omega) (by omega)) (fun r1 M1 z1 hq1 => ?_) (fun E M2 z2 hq => by obtain ⟨hq, -⟩ := hq; cases hq)
  obtain ⟨hr1, hA1, hO1, hz1⟩ := hq1
  cases hr1
  subst hz1
  refine g_if_eqB (tgt := 26) dX8_shear_21 (by decide)  (fun h21 => absurd h21 (by decide)) (fun _ => ?_)
  refine g_iconst (v := nI 0) dX8_shear_24 rfl ?_
  exact g_ireturn rfl rfl dX8_shear_25 (Nat.le_of_ble_eq_true rfl) (Nat.le_of_ble_eq_true rfl) ⟨rfl, ⟨_, _, hA1, upd_eq, hr.i0⟩, hO1, rfl⟩
theorem n_shear (hA : MAt M b I A) (hr : MRel I A f t n h sv len g) (hI : Rng f) (h1 : 1 ≤ m) (h2 : m ≤ 9) : Runs mX8_shear [.ref b, .int (nI m)] M z (MoQ (some (.int (nI (f_shear (nI m) 144 f).2))) 0 M b ((f_shear (nI m) 144 f).1) (t) (remN n) (remH n h f) sv len g z) := by
  obtain ⟨rfl, rfl, h12, hn14, h9, ⟨h11, h10⟩, h16, hl, hT⟩ := id hr
  refine runs_of plX8 rfl (Nat.le_of_ble_eq_true rfl) ?_
  show WP mX8_shear 0 [some (.ref b), some (.int (nI m))] [] M z 0 0 _
  refine g_aload_0 dX8_shear_0 ?_
  refine g_iload_1 dX8_shear_1 ?_
  refine g_i2l dX8_shear_2 ?_
  refine g_lconst (vl := 1) dX8_shear_3 rfl ?_
  refine g_ldc2 dX8_shear_4 (zX8_226 rfl) ?_
  refine g_s3_1 dX8_shear_7 (sX8_53 rfl) rfl (Nat.le_of_ble_eq_true rfl) ⟨rfl, rfl⟩ (Nat.le_of_ble_eq_true rfl) (Nat.le_of_ble_eq_true rfl) (m_in_ok (lo := 1) (hi := 9) (by omega) (by omega) (by omega) rfl rfl) ?_
  refine g_if_eqB (tgt := 17) dX8_shear_10 (by decide)  (fun h10 => absurd h10 (by decide)) (fun _ => ?_)
  refine g_iconst (v := nI 0) dX8_shear_13 rfl ?_
  refine g_goto (tgt := 18) dX8_shear_14 (by decide) ?_
  refine g_v1 dX8_shear_18 (vX8_149 rfl) rfl hA.1 (Nat.le_of_ble_eq_true rfl) (Nat.le_of_ble_eq_true rfl) (Nat.le_of_ble_eq_true rfl) (m_ref0 hA) (fun r1 M1 z1 hq1 => ?_) (fun E M2 z2 hq => by obtain ⟨hq, -⟩ := hq; cases hq)
  obtain ⟨hr1, hA1, hO1, hz1⟩ := hq1
  cases hr1
  subst hz1
  refine g_if_eqB (tgt := 26) dX8_shear_21 (by decide)  (fun _ => ?_) (fun h21 => absurd h21 (by decide))
  refine g_aload_0 dX8_shear_26 ?_
  refine g_v0 dX8_shear_27 (vX8_141 rfl) rfl hA1.1 (Nat.le_of_ble_eq_true rfl) (Nat.le_of_ble_eq_true rfl) (Nat.le_of_ble_eq_true rfl) (m_remember hA1 (by rw [upd_ne (by decide)]; exact h12) hn14) (fun r2 M2 z2 hq2 => ?_) (fun E M2 z2 hq => by obtain ⟨hq, -⟩ := hq; cases hq)
  obtain ⟨hr2, hA2, hO2, hz2⟩ := hq2
  cases hr2
  subst hz2
  have hr2 := (hr.i0 (v := nI 0)).rem
  have hR2 : RowAt M2 (b + 1) (A 1) := hA2.2.1
  have hO2 := hO1.tr hO2
  have h02 : upd (upd I 0 (nI 0)) 12 (nI (remN n)) 0 = nI 0 := (upd_ne (by decide)).trans upd_eq
  refine g_aload_0 dX8_shear_30 ?_
  refine g_get dX8_shear_31 (fX8_7 rfl) hA2.1 rfl ?_
  refine g_iload_1 dX8_shear_34 ?_
  refine g_s2_1 dX8_shear_35 (sX8_236 rfl) rfl (Nat.le_of_ble_eq_true rfl) ⟨rfl, rfl⟩ (Nat.le_of_ble_eq_true rfl) (Nat.le_of_ble_eq_true rfl) (m_goShear hR2 hI (by omega) (by omega)) ?_
  exact g_ireturn rfl rfl dX8_shear_38 (Nat.le_of_ble_eq_true rfl) (Nat.le_of_ble_eq_true rfl) ⟨rfl, ⟨_, _, hA2.a1, h02, hr2.r1⟩, hO2.tr (Out.put (by omega) (by omega)), rfl⟩
theorem n_turnLeft (hA : MAt M b I A) (hr : MRel I A f t n h sv len g) (hI : Rng f) : Runs mX8_turnLeft [.ref b] M z (MoQ (some (.int (f_turn f 3 458))) 0 M b (f_turn f 3) (t) (remN n) (remH n h f) sv len g z) := by
  obtain ⟨rfl, rfl, h12, hn14, h9, ⟨h11, h10⟩, h16, hl, hT⟩ := id hr
  refine runs_of plX8 rfl (Nat.le_of_ble_eq_true rfl) ?_
  show WP mX8_turnLeft 0 [some (.ref b)] [] M z 0 0 _
  refine g_aload_0 dX8_turnLeft_0 ?_
  refine g_iconst (v := nI 0) dX8_turnLeft_1 rfl ?_
  refine g_putI0 dX8_turnLeft_2 (fX8_47 rfl) hA (fun M1 hA1 n1 => ?_)
  have hao1 := hA1.1
  have hO1 : Out M M1 b 13 := fun q hq => n1 q (by omega)
  refine g_aload_0 dX8_turnLeft_5 ?_
  refine g_v0 dX8_turnLeft_6 (vX8_141 rfl) rfl hA1.1 (Nat.le_of_ble_eq_true rfl) (Nat.le_of_ble_eq_true rfl) (Nat.le_of_ble_eq_true rfl) (m_remember hA1 (by rw [upd_ne (by decide)]; exact h12) hn14) (fun r2 M2 z2 hq2 => ?_) (fun E M2 z2 hq => by obtain ⟨hq, -⟩ := hq; cases hq)
  obtain ⟨hr2, hA2, hO2, hz2⟩ := hq2
  cases hr2
  subst hz2
  have hr2 := (hr.i0 (v := nI 0)).rem
  have hR2 : RowAt M2 (b + 1) (A 1) := hA2.2.1
  have hO2 := hO1.tr hO2
  have h02 : upd (upd I 0 (nI 0)) 12 (nI (remN n)) 0 = nI 0 := (upd_ne (by decide)).trans upd_eq
  refine g_aload_0 dX8_turnLeft_9 ?_
  refine g_get dX8_turnLeft_10 (fX8_7 rfl) hA2.1 rfl ?_
  refine g_iconst (v := nI 3) dX8_turnLeft_13 rfl ?_
  refine g_s2_1 dX8_turnLeft_14 (sX8_121 rfl) rfl (Nat.le_of_ble_eq_true rfl) ⟨rfl, rfl⟩ (Nat.le_of_ble_eq_true rfl) (Nat.le_of_ble_eq_true rfl) (m_goTurn (n := 3) hR2 hI (by decide)) ?_
  exact g_ireturn rfl rfl dX8_turnLeft_17 (Nat.le_of_ble_eq_true rfl) (Nat.le_of_ble_eq_true rfl) ⟨rfl, ⟨_, _, hA2.a1, h02, hr2.r1⟩, hO2.tr (Out.put (by omega) (by omega)), rfl⟩
theorem n_turnRight (hA : MAt M b I A) (hr : MRel I A f t n h sv len g) (hI : Rng f) : Runs mX8_turnRight [.ref b] M z (MoQ (some (.int (f_turn f 1 458))) 0 M b (f_turn f 1) (t) (remN n) (remH n h f) sv len g z) := by
  obtain ⟨rfl, rfl, h12, hn14, h9, ⟨h11, h10⟩, h16, hl, hT⟩ := id hr
  refine runs_of plX8 rfl (Nat.le_of_ble_eq_true rfl) ?_
  show WP mX8_turnRight 0 [some (.ref b)] [] M z 0 0 _
  refine g_aload_0 dX8_turnRight_0 ?_
  refine g_iconst (v := nI 0) dX8_turnRight_1 rfl ?_
  refine g_putI0 dX8_turnRight_2 (fX8_47 rfl) hA (fun M1 hA1 n1 => ?_)
  have hao1 := hA1.1
  have hO1 : Out M M1 b 13 := fun q hq => n1 q (by omega)
  refine g_aload_0 dX8_turnRight_5 ?_
  refine g_v0 dX8_turnRight_6 (vX8_141 rfl) rfl hA1.1 (Nat.le_of_ble_eq_true rfl) (Nat.le_of_ble_eq_true rfl) (Nat.le_of_ble_eq_true rfl) (m_remember hA1 (by rw [upd_ne (by decide)]; exact h12) hn14) (fun r2 M2 z2 hq2 => ?_) (fun E M2 z2 hq => by obtain ⟨hq, -⟩ := hq; cases hq)
  obtain ⟨hr2, hA2, hO2, hz2⟩ := hq2
  cases hr2
  subst hz2
  have hr2 := (hr.i0 (v := nI 0)).rem
  have hR2 : RowAt M2 (b + 1) (A 1) := hA2.2.1
  have hO2 := hO1.tr hO2
  have h02 : upd (upd I 0 (nI 0)) 12 (nI (remN n)) 0 = nI 0 := (upd_ne (by decide)).trans upd_eq
  refine g_aload_0 dX8_turnRight_9 ?_
  refine g_get dX8_turnRight_10 (fX8_7 rfl) hA2.1 rfl ?_
  refine g_iconst (v := nI 1) dX8_turnRight_13 rfl ?_
  refine g_s2_1 dX8_turnRight_14 (sX8_121 rfl) rfl (Nat.le_of_ble_eq_true rfl) ⟨rfl, rfl⟩ (Nat.le_of_ble_eq_true rfl) (Nat.le_of_ble_eq_true rfl) (m_goTurn (n := 1) hR2 hI (by decide)) ?_
  exact g_ireturn rfl rfl dX8_turnRight_17 (Nat.le_of_ble_eq_true rfl) (Nat.le_of_ble_eq_true rfl) ⟨rfl, ⟨_, _, hA2.a1, h02, hr2.r1⟩, hO2.tr (Out.put (by omega) (by omega)), rfl⟩
theorem n_place_x1 (hA : MAt M b I A) (hr : MRel I A f t n h sv len g) (hx : x < 0 ∨ nI 144 ≤ x) : Runs mX8_place [.ref b, .int x, .int y] M z (MoQ (some (.int (nI 0))) 1 M b (f) (t) n h sv len g z) := by
  obtain ⟨rfl, rfl, h12, hn14, h9, ⟨h11, h10⟩, h16, hl, hT⟩ := id hr
  refine runs_of plX8 rfl (Nat.le_of_ble_eq_true rfl) ?_
  show WP mX8_place 0 [some (.ref b), some (.int x), some (.int y), none, none] [] M z 0 0 _
  refine g_iload_1 dX8_place_0 ?_
  refine g_s1_1 dX8_place_1 (sX8_186 rfl) rfl (Nat.le_of_ble_eq_true rfl) ⟨rfl, rfl⟩ (Nat.le_of_ble_eq_true rfl) (Nat.le_of_ble_eq_true rfl) (m_isCell_x hx) ?_
  refine g_istore_3 rfl dX8_place_4 ?_
  refine g_aload_0 dX8_place_5 ?_
  refine g_iload_3 dX8_place_6 ?_
  refine g_if_neB (tgt := 14) dX8_place_7 (by decide)  (fun h7 => absurd h7 (by decide)) (fun _ => ?_)
  refine g_iconst (v := nI 1) dX8_place_10 rfl ?_
  refine g_goto (tgt := 46) dX8_place_11 (by decide) ?_
  refine g_v1 dX8_place_46 (vX8_149 rfl) rfl hA.1 (Nat.le_of_ble_eq_true rfl) (Nat.le_of_ble_eq_true rfl) (Nat.le_of_ble_eq_true rfl) (m_refk hA (by omega) (by omega)) (fun r1 M1 z1 hq1 => ?_) (fun E M2 z2 hq => by obtain ⟨hq, -⟩ := hq; cases hq)
  obtain ⟨hr1, hA1, hO1, hz1⟩ := hq1
  cases hr1
  subst hz1
  refine g_if_eqB (tgt := 54) dX8_place_49 (by decide)  (fun h49 => absurd h49 (by decide)) (fun _ => ?_)
  refine g_iconst (v := nI 0) dX8_place_52 rfl ?_
  exact g_ireturn rfl rfl dX8_place_53 (Nat.le_of_ble_eq_true rfl) (Nat.le_of_ble_eq_true rfl) ⟨rfl, ⟨_, _, hA1, upd_eq, hr.i0⟩, hO1, rfl⟩
theorem n_place_x2 (hA : MAt M b I A) (hr : MRel I A f t n h sv len g) (hj : j < 144) (hx : y < nI 0 ∨ nI 3 < y) : Runs mX8_place [.ref b, .int (nI j), .int y] M z (MoQ (some (.int (nI 0))) 2 M b (f) (t) n h sv len g z) := by
  obtain ⟨rfl, rfl, h12, hn14, h9, ⟨h11, h10⟩, h16, hl, hT⟩ := id hr
  refine runs_of plX8 rfl (Nat.le_of_ble_eq_true rfl) ?_
  show WP mX8_place 0 [some (.ref b), some (.int (nI j)), some (.int y), none, none] [] M z 0 0 _
  refine g_iload_1 dX8_place_0 ?_
  refine g_s1_1 dX8_place_1 (sX8_186 rfl) rfl (Nat.le_of_ble_eq_true rfl) ⟨rfl, rfl⟩ (Nat.le_of_ble_eq_true rfl) (Nat.le_of_ble_eq_true rfl) (m_isCell_ok hj) ?_
  refine g_istore_3 rfl dX8_place_4 ?_
  refine g_aload_0 dX8_place_5 ?_
  refine g_iload_3 dX8_place_6 ?_
  refine g_if_neB (tgt := 14) dX8_place_7 (by decide)  (fun _ => ?_) (fun h7 => absurd h7 (by decide))
  refine g_iload_2 dX8_place_14 ?_
  refine g_i2l dX8_place_15 ?_
  refine g_lconst (vl := 0) dX8_place_16 rfl ?_
  refine g_ldc2 dX8_place_17 (zX8_214 rfl) ?_
  refine g_s3_1 dX8_place_20 (sX8_53 rfl) rfl (Nat.le_of_ble_eq_true rfl) ⟨rfl, rfl⟩ (Nat.le_of_ble_eq_true rfl) (Nat.le_of_ble_eq_true rfl) (m_in_x (lo := 0) (hi := 3) hx (by omega) (by omega) rfl rfl) ?_
  refine g_if_neB (tgt := 30) dX8_place_23 (by decide)  (fun h23 => absurd h23 (by decide)) (fun _ => ?_)
  refine g_iconst (v := nI 2) dX8_place_26 rfl ?_
  refine g_goto (tgt := 46) dX8_place_27 (by decide) ?_
  refine g_v1 dX8_place_46 (vX8_149 rfl) rfl hA.1 (Nat.le_of_ble_eq_true rfl) (Nat.le_of_ble_eq_true rfl) (Nat.le_of_ble_eq_true rfl) (m_refk hA (by omega) (by omega)) (fun r1 M1 z1 hq1 => ?_) (fun E M2 z2 hq => by obtain ⟨hq, -⟩ := hq; cases hq)
  obtain ⟨hr1, hA1, hO1, hz1⟩ := hq1
  cases hr1
  subst hz1
  refine g_if_eqB (tgt := 54) dX8_place_49 (by decide)  (fun h49 => absurd h49 (by decide)) (fun _ => ?_)
  refine g_iconst (v := nI 0) dX8_place_52 rfl ?_
  exact g_ireturn rfl rfl dX8_place_53 (Nat.le_of_ble_eq_true rfl) (Nat.le_of_ble_eq_true rfl) ⟨rfl, ⟨_, _, hA1, upd_eq, hr.i0⟩, hO1, rfl⟩
theorem n_place_x3 (hA : MAt M b I A) (hr : MRel I A f t n h sv len g) (hI : Rng f) (hj : j < 144) (hh : hd < 4) (ht : 0 < tno f) : Runs mX8_place [.ref b, .int (nI j), .int (nI hd)] M z (MoQ (some (.int (nI 0))) 3 M b (f) (t) n h sv len g z) := by
  obtain ⟨rfl, rfl, h12, hn14, h9, ⟨h11, h10⟩, h16, hl, hT⟩ := id hr
  have htl := hI.tlt
  refine runs_of plX8 rfl (Nat.le_of_ble_eq_true rfl) ?_
  show WP mX8_place 0 [some (.ref b), some (.int (nI j)), some (.int (nI hd)), none, none] [] M z 0 0 _
  refine g_iload_1 dX8_place_0 ?_
  refine g_s1_1 dX8_place_1 (sX8_186 rfl) rfl (Nat.le_of_ble_eq_true rfl) ⟨rfl, rfl⟩ (Nat.le_of_ble_eq_true rfl) (Nat.le_of_ble_eq_true rfl) (m_isCell_ok hj) ?_
  refine g_istore_3 rfl dX8_place_4 ?_
  refine g_aload_0 dX8_place_5 ?_
  refine g_iload_3 dX8_place_6 ?_
  refine g_if_neB (tgt := 14) dX8_place_7 (by decide)  (fun _ => ?_) (fun h7 => absurd h7 (by decide))
  refine g_iload_2 dX8_place_14 ?_
  refine g_i2l dX8_place_15 ?_
  refine g_lconst (vl := 0) dX8_place_16 rfl ?_
  refine g_ldc2 dX8_place_17 (zX8_214 rfl) ?_
  refine g_s3_1 dX8_place_20 (sX8_53 rfl) rfl (Nat.le_of_ble_eq_true rfl) ⟨rfl, rfl⟩ (Nat.le_of_ble_eq_true rfl) (Nat.le_of_ble_eq_true rfl) (m_in_ok (lo := 0) (hi := 3) (by omega) (by omega) (by omega) rfl rfl) ?_
  refine g_if_neB (tgt := 30) dX8_place_23 (by decide)  (fun _ => ?_) (fun h23 => absurd h23 (by decide))
  refine g_aload_0 dX8_place_30 ?_
  refine g_get dX8_place_31 (fX8_7 rfl) hA.1 rfl ?_
  refine g_sipush (v := nI 459) dX8_place_34 rfl ?_
  refine g_ialdN dX8_place_37 hA.2.1 (by omega) (by decide) ?_
  rw [show A 1 459 = nI (tno (A 1)) from hI.2.2.2.2.1.2.2.1.1]
  refine g_if_leN (tgt := 45) dX8_place_38 (by decide) (by omega) (fun h38 => absurd h38 (by omega)) (fun _ => ?_)
  refine g_iconst (v := nI 3) dX8_place_41 rfl ?_
  refine g_goto (tgt := 46) dX8_place_42 (by decide) ?_
  refine g_v1 dX8_place_46 (vX8_149 rfl) rfl hA.1 (Nat.le_of_ble_eq_true rfl) (Nat.le_of_ble_eq_true rfl) (Nat.le_of_ble_eq_true rfl) (m_refk hA (by omega) (by omega)) (fun r1 M1 z1 hq1 => ?_) (fun E M2 z2 hq => by obtain ⟨hq, -⟩ := hq; cases hq)
  obtain ⟨hr1, hA1, hO1, hz1⟩ := hq1
  cases hr1
  subst hz1
  refine g_if_eqB (tgt := 54) dX8_place_49 (by decide)  (fun h49 => absurd h49 (by decide)) (fun _ => ?_)
  refine g_iconst (v := nI 0) dX8_place_52 rfl ?_
  exact g_ireturn rfl rfl dX8_place_53 (Nat.le_of_ble_eq_true rfl) (Nat.le_of_ble_eq_true rfl) ⟨rfl, ⟨_, _, hA1, upd_eq, hr.i0⟩, hO1, rfl⟩
theorem n_place (hA : MAt M b I A) (hr : MRel I A f t n h sv len g) (hI : Rng f) (hj : j < 144) (hh : hd < 4) (ht : tno f = 0) : Runs mX8_place [.ref b, .int (nI j), .int (nI hd)] M z (MoQ (some (.int (f 457))) 0 M b (upd (upd f 457 (nI j)) 458 (nI hd)) (t) (remN n) (remH n h f) sv len g z) := by
  obtain ⟨rfl, rfl, h12, hn14, h9, ⟨h11, h10⟩, h16, hl, hT⟩ := id hr
  have htl := hI.tlt
  refine runs_of plX8 rfl (Nat.le_of_ble_eq_true rfl) ?_
  show WP mX8_place 0 [some (.ref b), some (.int (nI j)), some (.int (nI hd)), none, none] [] M z 0 0 _
  refine g_iload_1 dX8_place_0 ?_
  refine g_s1_1 dX8_place_1 (sX8_186 rfl) rfl (Nat.le_of_ble_eq_true rfl) ⟨rfl, rfl⟩ (Nat.le_of_ble_eq_true rfl) (Nat.le_of_ble_eq_true rfl) (m_isCell_ok hj) ?_
  refine g_istore_3 rfl dX8_place_4 ?_
  refine g_aload_0 dX8_place_5 ?_
  refine g_iload_3 dX8_place_6 ?_
  refine g_if_neB (tgt := 14) dX8_place_7 (by decide)  (fun _ => ?_) (fun h7 => absurd h7 (by decide))
  refine g_iload_2 dX8_place_14 ?_
  refine g_i2l dX8_place_15 ?_
  refine g_lconst (vl := 0) dX8_place_16 rfl ?_
  refine g_ldc2 dX8_place_17 (zX8_214 rfl) ?_
  refine g_s3_1 dX8_place_20 (sX8_53 rfl) rfl (Nat.le_of_ble_eq_true rfl) ⟨rfl, rfl⟩ (Nat.le_of_ble_eq_true rfl) (Nat.le_of_ble_eq_true rfl) (m_in_ok (lo := 0) (hi := 3) (by omega) (by omega) (by omega) rfl rfl) ?_
  refine g_if_neB (tgt := 30) dX8_place_23 (by decide)  (fun _ => ?_) (fun h23 => absurd h23 (by decide))
  refine g_aload_0 dX8_place_30 ?_
  refine g_get dX8_place_31 (fX8_7 rfl) hA.1 rfl ?_
  refine g_sipush (v := nI 459) dX8_place_34 rfl ?_
  refine g_ialdN dX8_place_37 hA.2.1 (by omega) (by decide) ?_
  rw [show A 1 459 = nI (tno (A 1)) from hI.2.2.2.2.1.2.2.1.1]
  refine g_if_leN (tgt := 45) dX8_place_38 (by decide) (by omega) (fun _ => ?_) (fun h38 => absurd ht h38)
  refine g_iconst (v := nI 0) dX8_place_45 rfl ?_
  refine g_v1 dX8_place_46 (vX8_149 rfl) rfl hA.1 (Nat.le_of_ble_eq_true rfl) (Nat.le_of_ble_eq_true rfl) (Nat.le_of_ble_eq_true rfl) (m_ref0 hA) (fun r1 M1 z1 hq1 => ?_) (fun E M2 z2 hq => by obtain ⟨hq, -⟩ := hq; cases hq)
  obtain ⟨hr1, hA1, hO1, hz1⟩ := hq1
  cases hr1
  subst hz1
  refine g_if_eqB (tgt := 54) dX8_place_49 (by decide)  (fun _ => ?_) (fun h49 => absurd h49 (by decide))
  refine g_aload_0 dX8_place_54 ?_
  refine g_v0 dX8_place_55 (vX8_141 rfl) rfl hA1.1 (Nat.le_of_ble_eq_true rfl) (Nat.le_of_ble_eq_true rfl) (Nat.le_of_ble_eq_true rfl) (m_remember hA1 (by rw [upd_ne (by decide)]; exact h12) hn14) (fun r2 M2 z2 hq2 => ?_) (fun E M2 z2 hq => by obtain ⟨hq, -⟩ := hq; cases hq)
  obtain ⟨hr2, hA2, hO2, hz2⟩ := hq2
  cases hr2
  subst hz2
  have hr2 := (hr.i0 (v := nI 0)).rem
  have hR2 : RowAt M2 (b + 1) (A 1) := hA2.2.1
  have hO2 := hO1.tr hO2
  have h02 : upd (upd I 0 (nI 0)) 12 (nI (remN n)) 0 = nI 0 := (upd_ne (by decide)).trans upd_eq
  refine g_aload_0 dX8_place_58 ?_
  refine g_get dX8_place_59 (fX8_7 rfl) hA2.1 rfl ?_
  refine g_sipush (v := nI 457) dX8_place_62 rfl ?_
  refine g_ialdN dX8_place_65 hR2 (by omega) (by decide) ?_
  refine g_istore_4 rfl dX8_place_66 ?_
  refine g_aload_0 dX8_place_68 ?_
  refine g_get dX8_place_69 (fX8_7 rfl) hA2.1 rfl ?_
  refine g_sipush (v := nI 457) dX8_place_72 rfl ?_
  refine g_iload_1 dX8_place_75 ?_
  refine g_iastN dX8_place_76 hR2 (by omega) (by decide) ?_
  have hA3 := hA2.a1 (g := upd (A 1) 457 (nI j))
  refine g_aload_0 dX8_place_77 ?_
  refine g_get dX8_place_78 (fX8_7 rfl) hA3.1 rfl ?_
  refine g_sipush (v := nI 458) dX8_place_81 rfl ?_
  refine g_iload_2 dX8_place_84 ?_
  refine g_iastN dX8_place_85 hA3.2.1 (by omega) (by decide) ?_
  rw [hpu_hpu]
  refine g_iload_4 dX8_place_86 ?_
  exact g_ireturn rfl rfl dX8_place_88 (Nat.le_of_ble_eq_true rfl) (Nat.le_of_ble_eq_true rfl) ⟨rfl, ⟨_, _, hA2.a1, h02, hr2.r1⟩, hO2.tr (Out.put (by omega) (by omega)), rfl⟩
theorem n_wind_x1 (hA : MAt M b I A) (hr : MRel I A f t n h sv len g) (hx : x < 0 ∨ nI 5 ≤ x) : Runs mX8_wind [.ref b, .int x, .int y] M z (MoQ (some (.int (nI 0))) 1 M b (f) (t) n h sv len g z) := by
  obtain ⟨rfl, rfl, h12, hn14, h9, ⟨h11, h10⟩, h16, hl, hT⟩ := id hr
  refine runs_of plX8 rfl (Nat.le_of_ble_eq_true rfl) ?_
  show WP mX8_wind 0 [some (.ref b), some (.int x), some (.int y), none, none] [] M z 0 0 _
  refine g_iload_1 dX8_wind_0 ?_
  refine g_s1_1 dX8_wind_1 (sX8_189 rfl) rfl (Nat.le_of_ble_eq_true rfl) ⟨rfl, rfl⟩ (Nat.le_of_ble_eq_true rfl) (Nat.le_of_ble_eq_true rfl) (m_isCol_x hx) ?_
  refine g_istore_3 rfl dX8_wind_4 ?_
  refine g_iload_3 dX8_wind_5 ?_
  refine g_if_eqB (tgt := 42) dX8_wind_6 (by decide)  (fun _ => ?_) (fun h6 => absurd h6 (by decide))
  refine g_iconst (v := nI 0) dX8_wind_42 rfl ?_
  refine g_istore_4 rfl dX8_wind_43 ?_
  refine g_aload_0 dX8_wind_45 ?_
  refine g_iload_3 dX8_wind_46 ?_
  refine g_if_neB (tgt := 54) dX8_wind_47 (by decide)  (fun h47 => absurd h47 (by decide)) (fun _ => ?_)
  refine g_iconst (v := nI 1) dX8_wind_50 rfl ?_
  refine g_goto (tgt := 80) dX8_wind_51 (by decide) ?_
  refine g_v1 dX8_wind_80 (vX8_149 rfl) rfl hA.1 (Nat.le_of_ble_eq_true rfl) (Nat.le_of_ble_eq_true rfl) (Nat.le_of_ble_eq_true rfl) (m_refk hA (by omega) (by omega)) (fun r1 M1 z1 hq1 => ?_) (fun E M2 z2 hq => by obtain ⟨hq, -⟩ := hq; cases hq)
  obtain ⟨hr1, hA1, hO1, hz1⟩ := hq1
  cases hr1
  subst hz1
  refine g_if_eqB (tgt := 88) dX8_wind_83 (by decide)  (fun h83 => absurd h83 (by decide)) (fun _ => ?_)
  refine g_iconst (v := nI 0) dX8_wind_86 rfl ?_
  exact g_ireturn rfl rfl dX8_wind_87 (Nat.le_of_ble_eq_true rfl) (Nat.le_of_ble_eq_true rfl) ⟨rfl, ⟨_, _, hA1, upd_eq, hr.i0⟩, hO1, rfl⟩
theorem n_wind_x2 (hA : MAt M b I A) (hr : MRel I A f t n h sv len g) (hc : c < 5) (hx : y < nI 1 ∨ nI 9999 < y) : Runs mX8_wind [.ref b, .int (nI c), .int y] M z (MoQ (some (.int (nI 0))) 2 M b (f) (t) n h sv len g z) := by
  obtain ⟨rfl, rfl, h12, hn14, h9, ⟨h11, h10⟩, h16, hl, hT⟩ := id hr
  refine runs_of plX8 rfl (Nat.le_of_ble_eq_true rfl) ?_
  show WP mX8_wind 0 [some (.ref b), some (.int (nI c)), some (.int y), none, none] [] M z 0 0 _
  refine g_iload_1 dX8_wind_0 ?_
  refine g_s1_1 dX8_wind_1 (sX8_189 rfl) rfl (Nat.le_of_ble_eq_true rfl) ⟨rfl, rfl⟩ (Nat.le_of_ble_eq_true rfl) (Nat.le_of_ble_eq_true rfl) (m_isCol_ok hc) ?_
  refine g_istore_3 rfl dX8_wind_4 ?_
  refine g_iload_3 dX8_wind_5 ?_
  refine g_if_eqB (tgt := 42) dX8_wind_6 (by decide)  (fun h6 => absurd h6 (by decide)) (fun _ => ?_)
  refine g_iload_2 dX8_wind_9 ?_
  refine g_i2l dX8_wind_10 ?_
  refine g_lconst (vl := 1) dX8_wind_11 rfl ?_
  refine g_ldc2 dX8_wind_12 (zX8_228 rfl) ?_
  refine g_s3_1 dX8_wind_15 (sX8_53 rfl) rfl (Nat.le_of_ble_eq_true rfl) ⟨rfl, rfl⟩ (Nat.le_of_ble_eq_true rfl) (Nat.le_of_ble_eq_true rfl) (m_in_x (lo := 1) (hi := 9999) hx (by omega) (by omega) rfl rfl) ?_
  refine g_if_eqB (tgt := 42) dX8_wind_18 (by decide)  (fun _ => ?_) (fun h18 => absurd h18 (by decide))
  refine g_iconst (v := nI 0) dX8_wind_42 rfl ?_
  refine g_istore_4 rfl dX8_wind_43 ?_
  refine g_aload_0 dX8_wind_45 ?_
  refine g_iload_3 dX8_wind_46 ?_
  refine g_if_neB (tgt := 54) dX8_wind_47 (by decide)  (fun _ => ?_) (fun h47 => absurd h47 (by decide))
  refine g_iload_2 dX8_wind_54 ?_
  refine g_i2l dX8_wind_55 ?_
  refine g_lconst (vl := 1) dX8_wind_56 rfl ?_
  refine g_ldc2 dX8_wind_57 (zX8_228 rfl) ?_
  refine g_s3_1 dX8_wind_60 (sX8_53 rfl) rfl (Nat.le_of_ble_eq_true rfl) ⟨rfl, rfl⟩ (Nat.le_of_ble_eq_true rfl) (Nat.le_of_ble_eq_true rfl) (m_in_x (lo := 1) (hi := 9999) hx (by omega) (by omega) rfl rfl) ?_
  refine g_if_neB (tgt := 70) dX8_wind_63 (by decide)  (fun h63 => absurd h63 (by decide)) (fun _ => ?_)
  refine g_iconst (v := nI 2) dX8_wind_66 rfl ?_
  refine g_goto (tgt := 80) dX8_wind_67 (by decide) ?_
  refine g_v1 dX8_wind_80 (vX8_149 rfl) rfl hA.1 (Nat.le_of_ble_eq_true rfl) (Nat.le_of_ble_eq_true rfl) (Nat.le_of_ble_eq_true rfl) (m_refk hA (by omega) (by omega)) (fun r1 M1 z1 hq1 => ?_) (fun E M2 z2 hq => by obtain ⟨hq, -⟩ := hq; cases hq)
  obtain ⟨hr1, hA1, hO1, hz1⟩ := hq1
  cases hr1
  subst hz1
  refine g_if_eqB (tgt := 88) dX8_wind_83 (by decide)  (fun h83 => absurd h83 (by decide)) (fun _ => ?_)
  refine g_iconst (v := nI 0) dX8_wind_86 rfl ?_
  exact g_ireturn rfl rfl dX8_wind_87 (Nat.le_of_ble_eq_true rfl) (Nat.le_of_ble_eq_true rfl) ⟨rfl, ⟨_, _, hA1, upd_eq, hr.i0⟩, hO1, rfl⟩
theorem n_wind_x3 (hA : MAt M b I A) (hr : MRel I A f t n h sv len g) (hc : c < 5) (h1 : 1 ≤ m) (h2 : m ≤ 9999) (hw : ¬ f (432 + 5 * c) + nI m ≤ nI 20000) : Runs mX8_wind [.ref b, .int (nI c), .int (nI m)] M z (MoQ (some (.int (nI 0))) 3 M b (f) (t) n h sv len g z) := by
  obtain ⟨rfl, rfl, h12, hn14, h9, ⟨h11, h10⟩, h16, hl, hT⟩ := id hr
  refine runs_of plX8 rfl (Nat.le_of_ble_eq_true rfl) ?_
  show WP mX8_wind 0 [some (.ref b), some (.int (nI c)), some (.int (nI m)), none, none] [] M z 0 0 _
  refine g_iload_1 dX8_wind_0 ?_
  refine g_s1_1 dX8_wind_1 (sX8_189 rfl) rfl (Nat.le_of_ble_eq_true rfl) ⟨rfl, rfl⟩ (Nat.le_of_ble_eq_true rfl) (Nat.le_of_ble_eq_true rfl) (m_isCol_ok hc) ?_
  refine g_istore_3 rfl dX8_wind_4 ?_
  refine g_iload_3 dX8_wind_5 ?_
  refine g_if_eqB (tgt := 42) dX8_wind_6 (by decide)  (fun h6 => absurd h6 (by decide)) (fun _ => ?_)
  refine g_iload_2 dX8_wind_9 ?_
  refine g_i2l dX8_wind_10 ?_
  refine g_lconst (vl := 1) dX8_wind_11 rfl ?_
  refine g_ldc2 dX8_wind_12 (zX8_228 rfl) ?_
  refine g_s3_1 dX8_wind_15 (sX8_53 rfl) rfl (Nat.le_of_ble_eq_true rfl) ⟨rfl, rfl⟩ (Nat.le_of_ble_eq_true rfl) (Nat.le_of_ble_eq_true rfl) (m_in_ok (lo := 1) (hi := 9999) (by omega) (by omega) (by omega) rfl rfl) ?_
  refine g_if_eqB (tgt := 42) dX8_wind_18 (by decide)  (fun h18 => absurd h18 (by decide)) (fun _ => ?_)
  refine g_aload_0 dX8_wind_21 ?_
  refine g_get dX8_wind_22 (fX8_7 rfl) hA.1 rfl ?_
  refine g_iload_1 dX8_wind_25 ?_
  refine g_iconst (v := nI 0) dX8_wind_26 rfl ?_
  refine g_s3_1 dX8_wind_27 (sX8_65 rfl) rfl (Nat.le_of_ble_eq_true rfl) ⟨rfl, rfl⟩ (Nat.le_of_ble_eq_true rfl) (Nat.le_of_ble_eq_true rfl) (m_cone (n := 0) hA.2.1 hc (by omega)) ?_
  refine g_iload_2 dX8_wind_30 ?_
  refine g_iadd dX8_wind_31 ?_
  refine g_sipush (v := nI 20000) dX8_wind_32 rfl ?_
  refine g_icmp_le (tgt := 42) dX8_wind_35 (by decide)  (fun h35 => absurd h35 hw) (fun _ => ?_)
  refine g_iconst (v := nI 1) dX8_wind_38 rfl ?_
  refine g_goto (tgt := 43) dX8_wind_39 (by decide) ?_
  refine g_istore_4 rfl dX8_wind_43 ?_
  refine g_aload_0 dX8_wind_45 ?_
  refine g_iload_3 dX8_wind_46 ?_
  refine g_if_neB (tgt := 54) dX8_wind_47 (by decide)  (fun _ => ?_) (fun h47 => absurd h47 (by decide))
  refine g_iload_2 dX8_wind_54 ?_
  refine g_i2l dX8_wind_55 ?_
  refine g_lconst (vl := 1) dX8_wind_56 rfl ?_
  refine g_ldc2 dX8_wind_57 (zX8_228 rfl) ?_
  refine g_s3_1 dX8_wind_60 (sX8_53 rfl) rfl (Nat.le_of_ble_eq_true rfl) ⟨rfl, rfl⟩ (Nat.le_of_ble_eq_true rfl) (Nat.le_of_ble_eq_true rfl) (m_in_ok (lo := 1) (hi := 9999) (by omega) (by omega) (by omega) rfl rfl) ?_
  refine g_if_neB (tgt := 70) dX8_wind_63 (by decide)  (fun _ => ?_) (fun h63 => absurd h63 (by decide))
  refine g_iload_4 dX8_wind_70 ?_
  refine g_if_eqN (tgt := 79) dX8_wind_72 (by decide) (by omega) (fun h72 => absurd h72 (by decide)) (fun _ => ?_)
  refine g_iconst (v := nI 3) dX8_wind_75 rfl ?_
  refine g_goto (tgt := 80) dX8_wind_76 (by decide) ?_
  refine g_v1 dX8_wind_80 (vX8_149 rfl) rfl hA.1 (Nat.le_of_ble_eq_true rfl) (Nat.le_of_ble_eq_true rfl) (Nat.le_of_ble_eq_true rfl) (m_refk hA (by omega) (by omega)) (fun r1 M1 z1 hq1 => ?_) (fun E M2 z2 hq => by obtain ⟨hq, -⟩ := hq; cases hq)
  obtain ⟨hr1, hA1, hO1, hz1⟩ := hq1
  cases hr1
  subst hz1
  refine g_if_eqB (tgt := 88) dX8_wind_83 (by decide)  (fun h83 => absurd h83 (by decide)) (fun _ => ?_)
  refine g_iconst (v := nI 0) dX8_wind_86 rfl ?_
  exact g_ireturn rfl rfl dX8_wind_87 (Nat.le_of_ble_eq_true rfl) (Nat.le_of_ble_eq_true rfl) ⟨rfl, ⟨_, _, hA1, upd_eq, hr.i0⟩, hO1, rfl⟩
theorem n_wind (hA : MAt M b I A) (hr : MRel I A f t n h sv len g) (hc : c < 5) (h1 : 1 ≤ m) (h2 : m ≤ 9999) (hw : f (432 + 5 * c) + nI m ≤ nI 20000) : Runs mX8_wind [.ref b, .int (nI c), .int (nI m)] M z (MoQ (some (.int (f (432 + 5 * c) + nI m))) 0 M b (upd (upd f (432 + 5 * c) (f (432 + 5 * c) + nI m)) (433 + 5 * c) (f (433 + 5 * c) + nI m)) (t) (remN n) (remH n h f) sv len g z) := by
  obtain ⟨rfl, rfl, h12, hn14, h9, ⟨h11, h10⟩, h16, hl, hT⟩ := id hr
  refine runs_of plX8 rfl (Nat.le_of_ble_eq_true rfl) ?_
  show WP mX8_wind 0 [some (.ref b), some (.int (nI c)), some (.int (nI m)), none, none] [] M z 0 0 _
  refine g_iload_1 dX8_wind_0 ?_
  refine g_s1_1 dX8_wind_1 (sX8_189 rfl) rfl (Nat.le_of_ble_eq_true rfl) ⟨rfl, rfl⟩ (Nat.le_of_ble_eq_true rfl) (Nat.le_of_ble_eq_true rfl) (m_isCol_ok hc) ?_
  refine g_istore_3 rfl dX8_wind_4 ?_
  refine g_iload_3 dX8_wind_5 ?_
  refine g_if_eqB (tgt := 42) dX8_wind_6 (by decide)  (fun h6 => absurd h6 (by decide)) (fun _ => ?_)
  refine g_iload_2 dX8_wind_9 ?_
  refine g_i2l dX8_wind_10 ?_
  refine g_lconst (vl := 1) dX8_wind_11 rfl ?_
  refine g_ldc2 dX8_wind_12 (zX8_228 rfl) ?_
  refine g_s3_1 dX8_wind_15 (sX8_53 rfl) rfl (Nat.le_of_ble_eq_true rfl) ⟨rfl, rfl⟩ (Nat.le_of_ble_eq_true rfl) (Nat.le_of_ble_eq_true rfl) (m_in_ok (lo := 1) (hi := 9999) (by omega) (by omega) (by omega) rfl rfl) ?_
  refine g_if_eqB (tgt := 42) dX8_wind_18 (by decide)  (fun h18 => absurd h18 (by decide)) (fun _ => ?_)
  refine g_aload_0 dX8_wind_21 ?_
  refine g_get dX8_wind_22 (fX8_7 rfl) hA.1 rfl ?_
  refine g_iload_1 dX8_wind_25 ?_
  refine g_iconst (v := nI 0) dX8_wind_26 rfl ?_
  refine g_s3_1 dX8_wind_27 (sX8_65 rfl) rfl (Nat.le_of_ble_eq_true rfl) ⟨rfl, rfl⟩ (Nat.le_of_ble_eq_true rfl) (Nat.le_of_ble_eq_true rfl) (m_cone (n := 0) hA.2.1 hc (by omega)) ?_
  refine g_iload_2 dX8_wind_30 ?_
  refine g_iadd dX8_wind_31 ?_
  refine g_sipush (v := nI 20000) dX8_wind_32 rfl ?_
  refine g_icmp_le (tgt := 42) dX8_wind_35 (by decide)  (fun _ => ?_) (fun h35 => absurd hw h35)
  refine g_iconst (v := nI 0) dX8_wind_42 rfl ?_
  refine g_istore_4 rfl dX8_wind_43 ?_
  refine g_aload_0 dX8_wind_45 ?_
  refine g_iload_3 dX8_wind_46 ?_
  refine g_if_neB (tgt := 54) dX8_wind_47 (by decide)  (fun _ => ?_) (fun h47 => absurd h47 (by decide))
  refine g_iload_2 dX8_wind_54 ?_
  refine g_i2l dX8_wind_55 ?_
  refine g_lconst (vl := 1) dX8_wind_56 rfl ?_
  refine g_ldc2 dX8_wind_57 (zX8_228 rfl) ?_
  refine g_s3_1 dX8_wind_60 (sX8_53 rfl) rfl (Nat.le_of_ble_eq_true rfl) ⟨rfl, rfl⟩ (Nat.le_of_ble_eq_true rfl) (Nat.le_of_ble_eq_true rfl) (m_in_ok (lo := 1) (hi := 9999) (by omega) (by omega) (by omega) rfl rfl) ?_
  refine g_if_neB (tgt := 70) dX8_wind_63 (by decide)  (fun _ => ?_) (fun h63 => absurd h63 (by decide))
  refine g_iload_4 dX8_wind_70 ?_
  refine g_if_eqN (tgt := 79) dX8_wind_72 (by decide) (by omega) (fun _ => ?_) (fun h72 => absurd rfl h72)
  refine g_iconst (v := nI 0) dX8_wind_79 rfl ?_
  refine g_v1 dX8_wind_80 (vX8_149 rfl) rfl hA.1 (Nat.le_of_ble_eq_true rfl) (Nat.le_of_ble_eq_true rfl) (Nat.le_of_ble_eq_true rfl) (m_ref0 hA) (fun r1 M1 z1 hq1 => ?_) (fun E M2 z2 hq => by obtain ⟨hq, -⟩ := hq; cases hq)
  obtain ⟨hr1, hA1, hO1, hz1⟩ := hq1
  cases hr1
  subst hz1
  refine g_if_eqB (tgt := 88) dX8_wind_83 (by decide)  (fun _ => ?_) (fun h83 => absurd h83 (by decide))
  refine g_aload_0 dX8_wind_88 ?_
  refine g_v0 dX8_wind_89 (vX8_141 rfl) rfl hA1.1 (Nat.le_of_ble_eq_true rfl) (Nat.le_of_ble_eq_true rfl) (Nat.le_of_ble_eq_true rfl) (m_remember hA1 (by rw [upd_ne (by decide)]; exact h12) hn14) (fun r2 M2 z2 hq2 => ?_) (fun E M2 z2 hq => by obtain ⟨hq, -⟩ := hq; cases hq)
  obtain ⟨hr2, hA2, hO2, hz2⟩ := hq2
  cases hr2
  subst hz2
  have hr2 := (hr.i0 (v := nI 0)).rem
  have hR2 : RowAt M2 (b + 1) (A 1) := hA2.2.1
  have hO2 := hO1.tr hO2
  have h02 : upd (upd I 0 (nI 0)) 12 (nI (remN n)) 0 = nI 0 := (upd_ne (by decide)).trans upd_eq
  refine g_aload_0 dX8_wind_92 ?_
  refine g_get dX8_wind_93 (fX8_7 rfl) hA2.1 rfl ?_
  refine g_sipush (v := nI 432) dX8_wind_96 rfl ?_
  refine g_iconst (v := nI 5) dX8_wind_99 rfl ?_
  refine g_iload_1 dX8_wind_100 ?_
  refine g_imulN dX8_wind_101 ?_
  refine g_iaddN dX8_wind_102 ?_
  refine g_dup2 dX8_wind_103 rfl rfl ?_
  refine g_ialdN dX8_wind_104 hR2 (by omega) (by decide) ?_
  refine g_iload_2 dX8_wind_105 ?_
  refine g_iadd dX8_wind_106 ?_
  refine g_iastN dX8_wind_107 hR2 (by omega) (by decide) ?_
  have hA3 := hA2.a1 (g := upd (A 1) (432 + 5 * c) (A 1 (432 + 5 * c) + nI m))
  refine g_aload_0 dX8_wind_108 ?_
  refine g_get dX8_wind_109 (fX8_7 rfl) hA3.1 rfl ?_
  refine g_sipush (v := nI 432) dX8_wind_112 rfl ?_
  refine g_iconst (v := nI 5) dX8_wind_115 rfl ?_
  refine g_iload_1 dX8_wind_116 ?_
  refine g_imulN dX8_wind_117 ?_
  refine g_iaddN dX8_wind_118 ?_
  refine g_iconst (v := nI 1) dX8_wind_119 rfl ?_
  refine g_iaddN dX8_wind_120 ?_
  rw [show 432 + 5 * c + 1 = 433 + 5 * c from by omega]
  refine g_dup2 dX8_wind_121 rfl rfl ?_
  refine g_ialdN dX8_wind_122 hA3.2.1 (by omega) (by decide) ?_
  rw [show stg (stg A 9 (remB (A 9) (A 1) n)) 1 (upd (A 1) (432 + 5 * c) (A 1 (432 + 5 * c) + nI m)) 1 (433 + 5 * c) = A 1 (433 + 5 * c) from (congrFun stg_eq _).trans (upd_ne (by omega))]
  refine g_iload_2 dX8_wind_123 ?_
  refine g_iadd dX8_wind_124 ?_
  refine g_iastN dX8_wind_125 hA3.2.1 (by omega) (by decide) ?_
  rw [hpu_hpu, show stg (stg A 9 (remB (A 9) (A 1) n)) 1 (upd (A 1) (432 + 5 * c) (A 1 (432 + 5 * c) + nI m)) 1 = upd (A 1) (432 + 5 * c) (A 1 (432 + 5 * c) + nI m) from stg_eq]
  have hA4 := hA2.a1 (g := upd (upd (A 1) (432 + 5 * c) (A 1 (432 + 5 * c) + nI m)) (433 + 5 * c) (A 1 (433 + 5 * c) + nI m))
  refine g_aload_0 dX8_wind_126 ?_
  refine g_get dX8_wind_127 (fX8_7 rfl) hA4.1 rfl ?_
  refine g_iload_1 dX8_wind_130 ?_
  refine g_iconst (v := nI 0) dX8_wind_131 rfl ?_
  refine g_s3_1 dX8_wind_132 (sX8_65 rfl) rfl (Nat.le_of_ble_eq_true rfl) ⟨rfl, rfl⟩ (Nat.le_of_ble_eq_true rfl) (Nat.le_of_ble_eq_true rfl) (m_cone (n := 0) hA4.2.1 hc (by omega)) ?_
  rw [show stg (stg A 9 (remB (A 9) (A 1) n)) 1 (upd (upd (A 1) (432 + 5 * c) (A 1 (432 + 5 * c) + nI m)) (433 + 5 * c) (A 1 (433 + 5 * c) + nI m)) 1 (432 + 5 * c + 0) = A 1 (432 + 5 * c) + nI m from (congrFun stg_eq _).trans ((upd_ne (by omega)).trans upd_eq)]
  exact g_ireturn rfl rfl dX8_wind_135 (Nat.le_of_ble_eq_true rfl) (Nat.le_of_ble_eq_true rfl) ⟨rfl, ⟨_, _, hA2.a1, h02, hr2.r1⟩, hO2.tr (Out.put (by omega) (by omega)), rfl⟩
theorem mend_row (hI : Rng f) (hj : j < 144) (h0 : f_noMend f j = 0) : gv f j - 1 < 5 ∧ f j - nI 1 = nI (gv f j - 1) ∧ ∀ k, k < 432 ∨ 457 ≤ k → f_draw f (gv f j - 1) (f_yarn (f 460)) 0 k = f k := by
  obtain ⟨p1, p2, p3⟩ := hI.plan hj (noM_m h0).1
  exact ⟨by omega, p3, fun k hk => draw_ne (by omega) (by omega) hk⟩
theorem n_mend_x1 (hA : MAt M b I A) (hr : MRel I A f t n h sv len g) (hx : x < 0 ∨ nI 144 ≤ x) : Runs mX8_mend [.ref b, .int x] M z (MoQ (some (.int (nI 0))) 1 M b (f) (t) n h sv len g z) := by
  obtain ⟨rfl, rfl, h12, hn14, h9, ⟨h11, h10⟩, h16, hl, hT⟩ := id hr
  refine runs_of plX8 rfl (Nat.le_of_ble_eq_true rfl) ?_
  show WP mX8_mend 0 [some (.ref b), some (.int x), none] [] M z 0 0 _
  refine g_iload_1 dX8_mend_0 ?_
  refine g_s1_1 dX8_mend_1 (sX8_186 rfl) rfl (Nat.le_of_ble_eq_true rfl) ⟨rfl, rfl⟩ (Nat.le_of_ble_eq_true rfl) (Nat.le_of_ble_eq_true rfl) (m_isCell_x hx) ?_
  refine g_istore_2 rfl dX8_mend_4 ?_
  refine g_aload_0 dX8_mend_5 ?_
  refine g_iload_2 dX8_mend_6 ?_
  refine g_if_neB (tgt := 14) dX8_mend_7 (by decide)  (fun h7 => absurd h7 (by decide)) (fun _ => ?_)
  refine g_iconst (v := nI 1) dX8_mend_10 rfl ?_
  refine g_goto (tgt := 30) dX8_mend_11 (by decide) ?_
  refine g_v1 dX8_mend_30 (vX8_149 rfl) rfl hA.1 (Nat.le_of_ble_eq_true rfl) (Nat.le_of_ble_eq_true rfl) (Nat.le_of_ble_eq_true rfl) (m_refk hA (by omega) (by omega)) (fun r1 M1 z1 hq1 => ?_) (fun E M2 z2 hq => by obtain ⟨hq, -⟩ := hq; cases hq)
  obtain ⟨hr1, hA1, hO1, hz1⟩ := hq1
  cases hr1
  subst hz1
  refine g_if_eqB (tgt := 38) dX8_mend_33 (by decide)  (fun h33 => absurd h33 (by decide)) (fun _ => ?_)
  refine g_iconst (v := nI 0) dX8_mend_36 rfl ?_
  exact g_ireturn rfl rfl dX8_mend_37 (Nat.le_of_ble_eq_true rfl) (Nat.le_of_ble_eq_true rfl) ⟨rfl, ⟨_, _, hA1, upd_eq, hr.i0⟩, hO1, rfl⟩
theorem n_mend_x2 (hA : MAt M b I A) (hr : MRel I A f t n h sv len g) (hI : Rng f) (hj : j < 144) (h0 : ¬ f_noMend f j = 0) : Runs mX8_mend [.ref b, .int (nI j)] M z (MoQ (some (.int (nI 0))) 2 M b (f) (t) n h sv len g z) := by
  obtain ⟨rfl, rfl, h12, hn14, h9, ⟨h11, h10⟩, h16, hl, hT⟩ := id hr
  have hst := noM_lt (A 1) j
  refine runs_of plX8 rfl (Nat.le_of_ble_eq_true rfl) ?_
  show WP mX8_mend 0 [some (.ref b), some (.int (nI j)), none] [] M z 0 0 _
  refine g_iload_1 dX8_mend_0 ?_
  refine g_s1_1 dX8_mend_1 (sX8_186 rfl) rfl (Nat.le_of_ble_eq_true rfl) ⟨rfl, rfl⟩ (Nat.le_of_ble_eq_true rfl) (Nat.le_of_ble_eq_true rfl) (m_isCell_ok hj) ?_
  refine g_istore_2 rfl dX8_mend_4 ?_
  refine g_aload_0 dX8_mend_5 ?_
  refine g_iload_2 dX8_mend_6 ?_
  refine g_if_neB (tgt := 14) dX8_mend_7 (by decide)  (fun _ => ?_) (fun h7 => absurd h7 (by decide))
  refine g_aload_0 dX8_mend_14 ?_
  refine g_get dX8_mend_15 (fX8_7 rfl) hA.1 rfl ?_
  refine g_iload_1 dX8_mend_18 ?_
  refine g_s2_1 dX8_mend_19 (sX8_230 rfl) rfl (Nat.le_of_ble_eq_true rfl) ⟨rfl, rfl⟩ (Nat.le_of_ble_eq_true rfl) (Nat.le_of_ble_eq_true rfl) (m_noMending hA.2.1 hI hj) ?_
  refine g_if_leN (tgt := 29) dX8_mend_22 (by decide) (by omega) (fun h22 => absurd h22 h0) (fun _ => ?_)
  refine g_iconst (v := nI 2) dX8_mend_25 rfl ?_
  refine g_goto (tgt := 30) dX8_mend_26 (by decide) ?_
  refine g_v1 dX8_mend_30 (vX8_149 rfl) rfl hA.1 (Nat.le_of_ble_eq_true rfl) (Nat.le_of_ble_eq_true rfl) (Nat.le_of_ble_eq_true rfl) (m_refk hA (by omega) (by omega)) (fun r1 M1 z1 hq1 => ?_) (fun E M2 z2 hq => by obtain ⟨hq, -⟩ := hq; cases hq)
  obtain ⟨hr1, hA1, hO1, hz1⟩ := hq1
  cases hr1
  subst hz1
  refine g_if_eqB (tgt := 38) dX8_mend_33 (by decide)  (fun h33 => absurd h33 (by decide)) (fun _ => ?_)
  refine g_iconst (v := nI 0) dX8_mend_36 rfl ?_
  exact g_ireturn rfl rfl dX8_mend_37 (Nat.le_of_ble_eq_true rfl) (Nat.le_of_ble_eq_true rfl) ⟨rfl, ⟨_, _, hA1, upd_eq, hr.i0⟩, hO1, rfl⟩
theorem n_mend (hA : MAt M b I A) (hr : MRel I A f t n h sv len g) (hI : Rng f) (hj : j < 144) (h0 : f_noMend f j = 0) : Runs mX8_mend [.ref b, .int (nI j)] M z (MoQ (some (.int (nI (gv f j - 1)))) 0 M b (f_mend f j) (t) (remN n) (remH n h f) sv len g z) := by
  obtain ⟨rfl, rfl, h12, hn14, h9, ⟨h11, h10⟩, h16, hl, hT⟩ := id hr
  have hst := noM_lt (A 1) j
  obtain ⟨e1, e2, e3⟩ := mend_row hI hj h0
  refine runs_of plX8 rfl (Nat.le_of_ble_eq_true rfl) ?_
  show WP mX8_mend 0 [some (.ref b), some (.int (nI j)), none] [] M z 0 0 _
  refine g_iload_1 dX8_mend_0 ?_
  refine g_s1_1 dX8_mend_1 (sX8_186 rfl) rfl (Nat.le_of_ble_eq_true rfl) ⟨rfl, rfl⟩ (Nat.le_of_ble_eq_true rfl) (Nat.le_of_ble_eq_true rfl) (m_isCell_ok hj) ?_
  refine g_istore_2 rfl dX8_mend_4 ?_
  refine g_aload_0 dX8_mend_5 ?_
  refine g_iload_2 dX8_mend_6 ?_
  refine g_if_neB (tgt := 14) dX8_mend_7 (by decide)  (fun _ => ?_) (fun h7 => absurd h7 (by decide))
  refine g_aload_0 dX8_mend_14 ?_
  refine g_get dX8_mend_15 (fX8_7 rfl) hA.1 rfl ?_
  refine g_iload_1 dX8_mend_18 ?_
  refine g_s2_1 dX8_mend_19 (sX8_230 rfl) rfl (Nat.le_of_ble_eq_true rfl) ⟨rfl, rfl⟩ (Nat.le_of_ble_eq_true rfl) (Nat.le_of_ble_eq_true rfl) (m_noMending hA.2.1 hI hj) ?_
  refine g_if_leN (tgt := 29) dX8_mend_22 (by decide) (by omega) (fun _ => ?_) (fun h22 => absurd h0 h22)
  refine g_iconst (v := nI 0) dX8_mend_29 rfl ?_
  refine g_v1 dX8_mend_30 (vX8_149 rfl) rfl hA.1 (Nat.le_of_ble_eq_true rfl) (Nat.le_of_ble_eq_true rfl) (Nat.le_of_ble_eq_true rfl) (m_ref0 hA) (fun r1 M1 z1 hq1 => ?_) (fun E M2 z2 hq => by obtain ⟨hq, -⟩ := hq; cases hq)
  obtain ⟨hr1, hA1, hO1, hz1⟩ := hq1
  cases hr1
  subst hz1
  refine g_if_eqB (tgt := 38) dX8_mend_33 (by decide)  (fun _ => ?_) (fun h33 => absurd h33 (by decide))
  refine g_aload_0 dX8_mend_38 ?_
  refine g_v0 dX8_mend_39 (vX8_141 rfl) rfl hA1.1 (Nat.le_of_ble_eq_true rfl) (Nat.le_of_ble_eq_true rfl) (Nat.le_of_ble_eq_true rfl) (m_remember hA1 (by rw [upd_ne (by decide)]; exact h12) hn14) (fun r2 M2 z2 hq2 => ?_) (fun E M2 z2 hq => by obtain ⟨hq, -⟩ := hq; cases hq)
  obtain ⟨hr2, hA2, hO2, hz2⟩ := hq2
  cases hr2
  subst hz2
  have hr2 := (hr.i0 (v := nI 0)).rem
  have hR2 : RowAt M2 (b + 1) (A 1) := hA2.2.1
  have hO2 := hO1.tr hO2
  have h02 : upd (upd I 0 (nI 0)) 12 (nI (remN n)) 0 = nI 0 := (upd_ne (by decide)).trans upd_eq
  refine g_aload_0 dX8_mend_42 ?_
  refine g_get dX8_mend_43 (fX8_7 rfl) hA2.1 rfl ?_
  refine g_aload_0 dX8_mend_46 ?_
  refine g_get dX8_mend_47 (fX8_7 rfl) hA2.1 rfl ?_
  refine g_iload_1 dX8_mend_50 ?_
  refine g_ialdN dX8_mend_51 hR2 (by omega) (by decide) ?_
  refine g_iconst (v := nI 1) dX8_mend_52 rfl ?_
  refine g_isub dX8_mend_53 ?_
  rw [e2]
  refine g_aload_0 dX8_mend_54 ?_
  refine g_get dX8_mend_55 (fX8_7 rfl) hA2.1 rfl ?_
  refine g_sipush (v := nI 460) dX8_mend_58 rfl ?_
  refine g_ialdN dX8_mend_61 hR2 (by omega) (by decide) ?_
  refine g_s1_1 dX8_mend_62 (sX8_83 rfl) rfl (Nat.le_of_ble_eq_true rfl) ⟨rfl, rfl⟩ (Nat.le_of_ble_eq_true rfl) (Nat.le_of_ble_eq_true rfl) (m_yarn) ?_
  refine g_iconst (v := nI 0) dX8_mend_65 rfl ?_
  refine g_s4_0 dX8_mend_66 (sX8_75 rfl) rfl (Nat.le_of_ble_eq_true rfl) ⟨rfl, rfl⟩ (Nat.le_of_ble_eq_true rfl) (Nat.le_of_ble_eq_true rfl) (m_draw hR2 e1 (by omega)) ?_
  refine g_aload_0 dX8_mend_69 ?_
  have hA3 := hA2.a1 (g := f_draw (A 1) (gv (A 1) j - 1) (f_yarn (A 1 460)) 0)
  refine g_get dX8_mend_70 (fX8_7 rfl) hA3.1 rfl ?_
  refine g_sipush (v := nI 144) dX8_mend_73 rfl ?_
  refine g_iload_1 dX8_mend_76 ?_
  refine g_iaddN dX8_mend_77 ?_
  refine g_aload_0 dX8_mend_78 ?_
  refine g_get dX8_mend_79 (fX8_7 rfl) hA3.1 rfl ?_
  refine g_iload_1 dX8_mend_82 ?_
  refine g_ialdN dX8_mend_83 hA3.2.1 (by omega) (by decide) ?_
  rw [show stg (stg A 9 (remB (A 9) (A 1) n)) 1 (f_draw (A 1) (gv (A 1) j - 1) (f_yarn (A 1 460)) 0) 1 j = A 1 j from (congrFun stg_eq _).trans (e3 _ (by omega))]
  refine g_iastN dX8_mend_84 hA3.2.1 (by omega) (by decide) ?_
  rw [hpu_hpu, show stg (stg A 9 (remB (A 9) (A 1) n)) 1 (f_draw (A 1) (gv (A 1) j - 1) (f_yarn (A 1 460)) 0) 1 = f_draw (A 1) (gv (A 1) j - 1) (f_yarn (A 1 460)) 0 from stg_eq]
  have hA4 := hA2.a1 (g := upd (f_draw (A 1) (gv (A 1) j - 1) (f_yarn (A 1 460)) 0) (144 + j) (A 1 j))
  refine g_aload_0 dX8_mend_85 ?_
  refine g_get dX8_mend_86 (fX8_7 rfl) hA4.1 rfl ?_
  refine g_sipush (v := nI 288) dX8_mend_89 rfl ?_
  refine g_iload_1 dX8_mend_92 ?_
  refine g_iaddN dX8_mend_93 ?_
  refine g_aload_0 dX8_mend_94 ?_
  refine g_get dX8_mend_95 (fX8_7 rfl) hA4.1 rfl ?_
  refine g_sipush (v := nI 460) dX8_mend_98 rfl ?_
  refine g_ialdN dX8_mend_101 hA4.2.1 (by omega) (by decide) ?_
  rw [show stg (stg A 9 (remB (A 9) (A 1) n)) 1 (upd (f_draw (A 1) (gv (A 1) j - 1) (f_yarn (A 1 460)) 0) (144 + j) (A 1 j)) 1 460 = A 1 460 from (congrFun stg_eq _).trans ((upd_ne (by omega)).trans (e3 _ (by omega)))]
  refine g_iastN dX8_mend_102 hA4.2.1 (by omega) (by decide) ?_
  rw [hpu_hpu, show stg (stg A 9 (remB (A 9) (A 1) n)) 1 (upd (f_draw (A 1) (gv (A 1) j - 1) (f_yarn (A 1 460)) 0) (144 + j) (A 1 j)) 1 = upd (f_draw (A 1) (gv (A 1) j - 1) (f_yarn (A 1 460)) 0) (144 + j) (A 1 j) from stg_eq]
  have hA5 := hA2.a1 (g := f_mend (A 1) j)
  refine g_aload_0 dX8_mend_103 ?_
  refine g_get dX8_mend_104 (fX8_7 rfl) hA5.1 rfl ?_
  refine g_iload_1 dX8_mend_107 ?_
  refine g_ialdN dX8_mend_108 hA5.2.1 (by omega) (by decide) ?_
  rw [show stg (stg A 9 (remB (A 9) (A 1) n)) 1 (f_mend (A 1) j) 1 j = A 1 j from (congrFun stg_eq _).trans (by unfold f_mend; rw [upd_ne (by omega), upd_ne (by omega)]; exact e3 _ (by omega))]
  refine g_iconst (v := nI 1) dX8_mend_109 rfl ?_
  refine g_isub dX8_mend_110 ?_
  rw [e2]
  exact g_ireturn rfl rfl dX8_mend_111 (Nat.le_of_ble_eq_true rfl) (Nat.le_of_ble_eq_true rfl) ⟨rfl, ⟨_, _, hA5, h02, hr2.r1⟩, hO2.tr (Out.put (by omega) (by omega)), rfl⟩
theorem n_unpick_x1 (hA : MAt M b I A) (hr : MRel I A f t n h sv len g) (hx : x < 0 ∨ nI 144 ≤ x) : Runs mX8_unpick [.ref b, .int x] M z (MoQ (some (.int (nI 0))) 1 M b (f) (t) n h sv len g z) := by
  obtain ⟨rfl, rfl, h12, hn14, h9, ⟨h11, h10⟩, h16, hl, hT⟩ := id hr
  refine runs_of plX8 rfl (Nat.le_of_ble_eq_true rfl) ?_
  show WP mX8_unpick 0 [some (.ref b), some (.int x), none] [] M z 0 0 _
  refine g_iload_1 dX8_unpick_0 ?_
  refine g_s1_1 dX8_unpick_1 (sX8_186 rfl) rfl (Nat.le_of_ble_eq_true rfl) ⟨rfl, rfl⟩ (Nat.le_of_ble_eq_true rfl) (Nat.le_of_ble_eq_true rfl) (m_isCell_x hx) ?_
  refine g_istore_2 rfl dX8_unpick_4 ?_
  refine g_aload_0 dX8_unpick_5 ?_
  refine g_iload_2 dX8_unpick_6 ?_
  refine g_if_neB (tgt := 14) dX8_unpick_7 (by decide)  (fun h7 => absurd h7 (by decide)) (fun _ => ?_)
  refine g_iconst (v := nI 1) dX8_unpick_10 rfl ?_
  refine g_goto (tgt := 30) dX8_unpick_11 (by decide) ?_
  refine g_v1 dX8_unpick_30 (vX8_149 rfl) rfl hA.1 (Nat.le_of_ble_eq_true rfl) (Nat.le_of_ble_eq_true rfl) (Nat.le_of_ble_eq_true rfl) (m_refk hA (by omega) (by omega)) (fun r1 M1 z1 hq1 => ?_) (fun E M2 z2 hq => by obtain ⟨hq, -⟩ := hq; cases hq)
  obtain ⟨hr1, hA1, hO1, hz1⟩ := hq1
  cases hr1
  subst hz1
  refine g_if_eqB (tgt := 38) dX8_unpick_33 (by decide)  (fun h33 => absurd h33 (by decide)) (fun _ => ?_)
  refine g_iconst (v := nI 0) dX8_unpick_36 rfl ?_
  exact g_ireturn rfl rfl dX8_unpick_37 (Nat.le_of_ble_eq_true rfl) (Nat.le_of_ble_eq_true rfl) ⟨rfl, ⟨_, _, hA1, upd_eq, hr.i0⟩, hO1, rfl⟩
theorem n_unpick_x2 (hA : MAt M b I A) (hr : MRel I A f t n h sv len g) (hj : j < 144) (hl0 : hasL (f (144 + j)) = false) : Runs mX8_unpick [.ref b, .int (nI j)] M z (MoQ (some (.int (nI 0))) 2 M b (f) (t) n h sv len g z) := by
  obtain ⟨rfl, rfl, h12, hn14, h9, ⟨h11, h10⟩, h16, hl, hT⟩ := id hr
  refine runs_of plX8 rfl (Nat.le_of_ble_eq_true rfl) ?_
  show WP mX8_unpick 0 [some (.ref b), some (.int (nI j)), none] [] M z 0 0 _
  refine g_iload_1 dX8_unpick_0 ?_
  refine g_s1_1 dX8_unpick_1 (sX8_186 rfl) rfl (Nat.le_of_ble_eq_true rfl) ⟨rfl, rfl⟩ (Nat.le_of_ble_eq_true rfl) (Nat.le_of_ble_eq_true rfl) (m_isCell_ok hj) ?_
  refine g_istore_2 rfl dX8_unpick_4 ?_
  refine g_aload_0 dX8_unpick_5 ?_
  refine g_iload_2 dX8_unpick_6 ?_
  refine g_if_neB (tgt := 14) dX8_unpick_7 (by decide)  (fun _ => ?_) (fun h7 => absurd h7 (by decide))
  refine g_aload_0 dX8_unpick_14 ?_
  refine g_get dX8_unpick_15 (fX8_7 rfl) hA.1 rfl ?_
  refine g_iload_1 dX8_unpick_18 ?_
  refine g_s2_1 dX8_unpick_19 (sX8_61 rfl) rfl (Nat.le_of_ble_eq_true rfl) ⟨rfl, rfl⟩ (Nat.le_of_ble_eq_true rfl) (Nat.le_of_ble_eq_true rfl) (m_hasLoop hA.2.1 hj) ?_
  refine g_if_neB (tgt := 29) dX8_unpick_22 (by decide)  (fun h22 => absurd (h22.symm.trans hl0) (by decide)) (fun _ => ?_)
  refine g_iconst (v := nI 2) dX8_unpick_25 rfl ?_
  refine g_goto (tgt := 30) dX8_unpick_26 (by decide) ?_
  refine g_v1 dX8_unpick_30 (vX8_149 rfl) rfl hA.1 (Nat.le_of_ble_eq_true rfl) (Nat.le_of_ble_eq_true rfl) (Nat.le_of_ble_eq_true rfl) (m_refk hA (by omega) (by omega)) (fun r1 M1 z1 hq1 => ?_) (fun E M2 z2 hq => by obtain ⟨hq, -⟩ := hq; cases hq)
  obtain ⟨hr1, hA1, hO1, hz1⟩ := hq1
  cases hr1
  subst hz1
  refine g_if_eqB (tgt := 38) dX8_unpick_33 (by decide)  (fun h33 => absurd h33 (by decide)) (fun _ => ?_)
  refine g_iconst (v := nI 0) dX8_unpick_36 rfl ?_
  exact g_ireturn rfl rfl dX8_unpick_37 (Nat.le_of_ble_eq_true rfl) (Nat.le_of_ble_eq_true rfl) ⟨rfl, ⟨_, _, hA1, upd_eq, hr.i0⟩, hO1, rfl⟩
theorem n_unpick (hA : MAt M b I A) (hr : MRel I A f t n h sv len g) (hI : Rng f) (hj : j < 144) (hl0 : hasL (f (144 + j)) = true) : Runs mX8_unpick [.ref b, .int (nI j)] M z (MoQ (some (.int (nI (gv f (144 + j) - 1)))) 0 M b (f_unpick f j) (t) (remN n) (remH n h f) sv len g z) := by
  obtain ⟨rfl, rfl, h12, hn14, h9, ⟨h11, h10⟩, h16, hl, hT⟩ := id hr
  refine runs_of plX8 rfl (Nat.le_of_ble_eq_true rfl) ?_
  show WP mX8_unpick 0 [some (.ref b), some (.int (nI j)), none] [] M z 0 0 _
  refine g_iload_1 dX8_unpick_0 ?_
  refine g_s1_1 dX8_unpick_1 (sX8_186 rfl) rfl (Nat.le_of_ble_eq_true rfl) ⟨rfl, rfl⟩ (Nat.le_of_ble_eq_true rfl) (Nat.le_of_ble_eq_true rfl) (m_isCell_ok hj) ?_
  refine g_istore_2 rfl dX8_unpick_4 ?_
  refine g_aload_0 dX8_unpick_5 ?_
  refine g_iload_2 dX8_unpick_6 ?_
  refine g_if_neB (tgt := 14) dX8_unpick_7 (by decide)  (fun _ => ?_) (fun h7 => absurd h7 (by decide))
  refine g_aload_0 dX8_unpick_14 ?_
  refine g_get dX8_unpick_15 (fX8_7 rfl) hA.1 rfl ?_
  refine g_iload_1 dX8_unpick_18 ?_
  refine g_s2_1 dX8_unpick_19 (sX8_61 rfl) rfl (Nat.le_of_ble_eq_true rfl) ⟨rfl, rfl⟩ (Nat.le_of_ble_eq_true rfl) (Nat.le_of_ble_eq_true rfl) (m_hasLoop hA.2.1 hj) ?_
  refine g_if_neB (tgt := 29) dX8_unpick_22 (by decide)  (fun _ => ?_) (fun h22 => absurd (h22.symm.trans hl0) (by decide))
  refine g_iconst (v := nI 0) dX8_unpick_29 rfl ?_
  refine g_v1 dX8_unpick_30 (vX8_149 rfl) rfl hA.1 (Nat.le_of_ble_eq_true rfl) (Nat.le_of_ble_eq_true rfl) (Nat.le_of_ble_eq_true rfl) (m_ref0 hA) (fun r1 M1 z1 hq1 => ?_) (fun E M2 z2 hq => by obtain ⟨hq, -⟩ := hq; cases hq)
  obtain ⟨hr1, hA1, hO1, hz1⟩ := hq1
  cases hr1
  subst hz1
  refine g_if_eqB (tgt := 38) dX8_unpick_33 (by decide)  (fun _ => ?_) (fun h33 => absurd h33 (by decide))
  refine g_aload_0 dX8_unpick_38 ?_
  refine g_v0 dX8_unpick_39 (vX8_141 rfl) rfl hA1.1 (Nat.le_of_ble_eq_true rfl) (Nat.le_of_ble_eq_true rfl) (Nat.le_of_ble_eq_true rfl) (m_remember hA1 (by rw [upd_ne (by decide)]; exact h12) hn14) (fun r2 M2 z2 hq2 => ?_) (fun E M2 z2 hq => by obtain ⟨hq, -⟩ := hq; cases hq)
  obtain ⟨hr2, hA2, hO2, hz2⟩ := hq2
  cases hr2
  subst hz2
  have hr2 := (hr.i0 (v := nI 0)).rem
  have hR2 : RowAt M2 (b + 1) (A 1) := hA2.2.1
  have hO2 := hO1.tr hO2
  have h02 : upd (upd I 0 (nI 0)) 12 (nI (remN n)) 0 = nI 0 := (upd_ne (by decide)).trans upd_eq
  refine g_aload_0 dX8_unpick_42 ?_
  refine g_get dX8_unpick_43 (fX8_7 rfl) hA2.1 rfl ?_
  refine g_iload_1 dX8_unpick_46 ?_
  refine g_s2_1 dX8_unpick_47 (sX8_233 rfl) rfl (Nat.le_of_ble_eq_true rfl) ⟨rfl, rfl⟩ (Nat.le_of_ble_eq_true rfl) (Nat.le_of_ble_eq_true rfl) (m_goUnpick hR2 hI hj hl0) ?_
  exact g_ireturn rfl rfl dX8_unpick_50 (Nat.le_of_ble_eq_true rfl) (Nat.le_of_ble_eq_true rfl) ⟨rfl, ⟨_, _, hA2.a1, h02, hr2.r1⟩, hO2.tr (Out.put (by omega) (by omega)), rfl⟩
theorem n_fillPlan_x1 (hA : MAt M b I A) (hr : MRel I A f t n h sv len g) (hx : x < 0 ∨ nI 144 ≤ x) : Runs mX8_fillPlan [.ref b, .int x, .int y, .int w0] M z (MoQ (some (.int (nI 0))) 1 M b (f) (t) n h sv len g z) := by
  obtain ⟨rfl, rfl, h12, hn14, h9, ⟨h11, h10⟩, h16, hl, hT⟩ := id hr
  refine runs_of plX8 rfl (Nat.le_of_ble_eq_true rfl) ?_
  show WP mX8_fillPlan 0 [some (.ref b), some (.int x), some (.int y), some (.int w0), none, none, none, none, none, none, none] [] M z 0 0 _
  refine g_iload_1 dX8_fillPlan_0 ?_
  refine g_s1_1 dX8_fillPlan_1 (sX8_186 rfl) rfl (Nat.le_of_ble_eq_true rfl) ⟨rfl, rfl⟩ (Nat.le_of_ble_eq_true rfl) (Nat.le_of_ble_eq_true rfl) (m_isCell_x hx) ?_
  refine g_if_eqB (tgt := 18) dX8_fillPlan_4 (by decide)  (fun _ => ?_) (fun h4 => absurd h4 (by decide))
  refine g_iconst (v := nI 0) dX8_fillPlan_18 rfl ?_
  refine g_istore_4 rfl dX8_fillPlan_19 ?_
  refine g_aload_0 dX8_fillPlan_21 ?_
  refine g_iload_4 dX8_fillPlan_22 ?_
  refine g_if_neN (tgt := 31) dX8_fillPlan_24 (by decide) (by omega) (fun h24 => absurd h24 (by decide)) (fun _ => ?_)
  refine g_iconst (v := nI 1) dX8_fillPlan_27 rfl ?_
  refine g_goto (tgt := 50) dX8_fillPlan_28 (by decide) ?_
  refine g_v1 dX8_fillPlan_50 (vX8_149 rfl) rfl hA.1 (Nat.le_of_ble_eq_true rfl) (Nat.le_of_ble_eq_true rfl) (Nat.le_of_ble_eq_true rfl) (m_refk hA (by omega) (by omega)) (fun r1 M1 z1 hq1 => ?_) (fun E M2 z2 hq => by obtain ⟨hq, -⟩ := hq; cases hq)
  obtain ⟨hr1, hA1, hO1, hz1⟩ := hq1
  cases hr1
  subst hz1
  refine g_if_eqB (tgt := 58) dX8_fillPlan_53 (by decide)  (fun h53 => absurd h53 (by decide)) (fun _ => ?_)
  refine g_iconst (v := nI 0) dX8_fillPlan_56 rfl ?_
  exact g_ireturn rfl rfl dX8_fillPlan_57 (Nat.le_of_ble_eq_true rfl) (Nat.le_of_ble_eq_true rfl) ⟨rfl, ⟨_, _, hA1, upd_eq, hr.i0⟩, hO1, rfl⟩
theorem n_fillPlan_x2 (hA : MAt M b I A) (hr : MRel I A f t n h sv len g) (hi : i < 144) (hx : y < 0 ∨ nI 144 ≤ y) : Runs mX8_fillPlan [.ref b, .int (nI i), .int y, .int w0] M z (MoQ (some (.int (nI 0))) 1 M b (f) (t) n h sv len g z) := by
  obtain ⟨rfl, rfl, h12, hn14, h9, ⟨h11, h10⟩, h16, hl, hT⟩ := id hr
  refine runs_of plX8 rfl (Nat.le_of_ble_eq_true rfl) ?_
  show WP mX8_fillPlan 0 [some (.ref b), some (.int (nI i)), some (.int y), some (.int w0), none, none, none, none, none, none, none] [] M z 0 0 _
  refine g_iload_1 dX8_fillPlan_0 ?_
  refine g_s1_1 dX8_fillPlan_1 (sX8_186 rfl) rfl (Nat.le_of_ble_eq_true rfl) ⟨rfl, rfl⟩ (Nat.le_of_ble_eq_true rfl) (Nat.le_of_ble_eq_true rfl) (m_isCell_ok hi) ?_
  refine g_if_eqB (tgt := 18) dX8_fillPlan_4 (by decide)  (fun h4 => absurd h4 (by decide)) (fun _ => ?_)
  refine g_iload_2 dX8_fillPlan_7 ?_
  refine g_s1_1 dX8_fillPlan_8 (sX8_186 rfl) rfl (Nat.le_of_ble_eq_true rfl) ⟨rfl, rfl⟩ (Nat.le_of_ble_eq_true rfl) (Nat.le_of_ble_eq_true rfl) (m_isCell_x hx) ?_
  refine g_if_eqB (tgt := 18) dX8_fillPlan_11 (by decide)  (fun _ => ?_) (fun h11 => absurd h11 (by decide))
  refine g_iconst (v := nI 0) dX8_fillPlan_18 rfl ?_
  refine g_istore_4 rfl dX8_fillPlan_19 ?_
  refine g_aload_0 dX8_fillPlan_21 ?_
  refine g_iload_4 dX8_fillPlan_22 ?_
  refine g_if_neN (tgt := 31) dX8_fillPlan_24 (by decide) (by omega) (fun h24 => absurd h24 (by decide)) (fun _ => ?_)
  refine g_iconst (v := nI 1) dX8_fillPlan_27 rfl ?_
  refine g_goto (tgt := 50) dX8_fillPlan_28 (by decide) ?_
  refine g_v1 dX8_fillPlan_50 (vX8_149 rfl) rfl hA.1 (Nat.le_of_ble_eq_true rfl) (Nat.le_of_ble_eq_true rfl) (Nat.le_of_ble_eq_true rfl) (m_refk hA (by omega) (by omega)) (fun r1 M1 z1 hq1 => ?_) (fun E M2 z2 hq => by obtain ⟨hq, -⟩ := hq; cases hq)
  obtain ⟨hr1, hA1, hO1, hz1⟩ := hq1
  cases hr1
  subst hz1
  refine g_if_eqB (tgt := 58) dX8_fillPlan_53 (by decide)  (fun h53 => absurd h53 (by decide)) (fun _ => ?_)
  refine g_iconst (v := nI 0) dX8_fillPlan_56 rfl ?_
  exact g_ireturn rfl rfl dX8_fillPlan_57 (Nat.le_of_ble_eq_true rfl) (Nat.le_of_ble_eq_true rfl) ⟨rfl, ⟨_, _, hA1, upd_eq, hr.i0⟩, hO1, rfl⟩
theorem n_fillPlan_x3 (hA : MAt M b I A) (hr : MRel I A f t n h sv len g) (hi : i < 144) (hj : j < 144) (hx : w0 < -1 ∨ nI 4 < w0) : Runs mX8_fillPlan [.ref b, .int (nI i), .int (nI j), .int w0] M z (MoQ (some (.int (nI 0))) 2 M b (f) (t) n h sv len g z) := by
  obtain ⟨rfl, rfl, h12, hn14, h9, ⟨h11, h10⟩, h16, hl, hT⟩ := id hr
  refine runs_of plX8 rfl (Nat.le_of_ble_eq_true rfl) ?_
  show WP mX8_fillPlan 0 [some (.ref b), some (.int (nI i)), some (.int (nI j)), some (.int w0), none, none, none, none, none, none, none] [] M z 0 0 _
  refine g_iload_1 dX8_fillPlan_0 ?_
  refine g_s1_1 dX8_fillPlan_1 (sX8_186 rfl) rfl (Nat.le_of_ble_eq_true rfl) ⟨rfl, rfl⟩ (Nat.le_of_ble_eq_true rfl) (Nat.le_of_ble_eq_true rfl) (m_isCell_ok hi) ?_
  refine g_if_eqB (tgt := 18) dX8_fillPlan_4 (by decide)  (fun h4 => absurd h4 (by decide)) (fun _ => ?_)
  refine g_iload_2 dX8_fillPlan_7 ?_
  refine g_s1_1 dX8_fillPlan_8 (sX8_186 rfl) rfl (Nat.le_of_ble_eq_true rfl) ⟨rfl, rfl⟩ (Nat.le_of_ble_eq_true rfl) (Nat.le_of_ble_eq_true rfl) (m_isCell_ok hj) ?_
  refine g_if_eqB (tgt := 18) dX8_fillPlan_11 (by decide)  (fun h11 => absurd h11 (by decide)) (fun _ => ?_)
  refine g_iconst (v := nI 1) dX8_fillPlan_14 rfl ?_
  refine g_goto (tgt := 19) dX8_fillPlan_15 (by decide) ?_
  refine g_istore_4 rfl dX8_fillPlan_19 ?_
  refine g_aload_0 dX8_fillPlan_21 ?_
  refine g_iload_4 dX8_fillPlan_22 ?_
  refine g_if_neN (tgt := 31) dX8_fillPlan_24 (by decide) (by omega) (fun _ => ?_) (fun h24 => absurd h24 (by decide))
  refine g_iload_3 dX8_fillPlan_31 ?_
  refine g_i2l dX8_fillPlan_32 ?_
  refine g_ldc2 dX8_fillPlan_33 (zX8_219 rfl) ?_
  refine g_ldc2 dX8_fillPlan_36 (zX8_57 rfl) ?_
  refine g_s3_1 dX8_fillPlan_39 (sX8_53 rfl) rfl (Nat.le_of_ble_eq_true rfl) ⟨rfl, rfl⟩ (Nat.le_of_ble_eq_true rfl) (Nat.le_of_ble_eq_true rfl) (m_inC_x hx) ?_
  refine g_if_neB (tgt := 49) dX8_fillPlan_42 (by decide)  (fun h42 => absurd h42 (by decide)) (fun _ => ?_)
  refine g_iconst (v := nI 2) dX8_fillPlan_45 rfl ?_
  refine g_goto (tgt := 50) dX8_fillPlan_46 (by decide) ?_
  refine g_v1 dX8_fillPlan_50 (vX8_149 rfl) rfl hA.1 (Nat.le_of_ble_eq_true rfl) (Nat.le_of_ble_eq_true rfl) (Nat.le_of_ble_eq_true rfl) (m_refk hA (by omega) (by omega)) (fun r1 M1 z1 hq1 => ?_) (fun E M2 z2 hq => by obtain ⟨hq, -⟩ := hq; cases hq)
  obtain ⟨hr1, hA1, hO1, hz1⟩ := hq1
  cases hr1
  subst hz1
  refine g_if_eqB (tgt := 58) dX8_fillPlan_53 (by decide)  (fun h53 => absurd h53 (by decide)) (fun _ => ?_)
  refine g_iconst (v := nI 0) dX8_fillPlan_56 rfl ?_
  exact g_ireturn rfl rfl dX8_fillPlan_57 (Nat.le_of_ble_eq_true rfl) (Nat.le_of_ble_eq_true rfl) ⟨rfl, ⟨_, _, hA1, upd_eq, hr.i0⟩, hO1, rfl⟩
theorem fl_b {p q r : Nat} (hp : p < 2 ^ 31) (hq : q < 2 ^ 31) : (decide (nI p ≤ nI q)) = decide (p ≤ q) := by
  rw [decide_eq_decide, Int32.le_iff_toInt_le, nI_toInt hp, nI_toInt hq]
  omega
theorem fl_in {i j k : Nat} (hk : k < 144) (h1 : (decide (nI (min (i % 12) (j % 12)) ≤ nI (k % 12)) && decide (nI (k % 12) ≤ nI (max (i % 12) (j % 12)))) = true) (h2 : (decide (nI (min (i / 12) (j / 12)) ≤ nI (k / 12)) && decide (nI (k / 12) ≤ nI (max (i / 12) (j / 12)))) = true) (hi : i < 144) (hj : j < 144) : inR i j k = true := by
  rw [fl_b (r := 0) (by omega) (by omega), fl_b (r := 0) (by omega) (by omega)] at h1 h2
  rw [Bool.and_eq_true, decide_eq_true_iff, decide_eq_true_iff] at h1 h2
  exact inR_t h1.1 h1.2 h2.1 h2.2
theorem fl_no1 {i j k : Nat} (hk : k < 144) (h1 : (decide (nI (min (i % 12) (j % 12)) ≤ nI (k % 12)) && decide (nI (k % 12) ≤ nI (max (i % 12) (j % 12)))) = false) (hi : i < 144) (hj : j < 144) : inR i j k = false := by
  rw [fl_b (r := 0) (by omega) (by omega), fl_b (r := 0) (by omega) (by omega), Bool.and_eq_false_iff, decide_eq_false_iff_not, decide_eq_false_iff_not] at h1
  exact inR_f (by omega)
theorem fl_no2 {i j k : Nat} (hk : k < 144) (h1 : (decide (nI (min (i / 12) (j / 12)) ≤ nI (k / 12)) && decide (nI (k / 12) ≤ nI (max (i / 12) (j / 12)))) = false) (hi : i < 144) (hj : j < 144) : inR i j k = false := by
  rw [fl_b (r := 0) (by omega) (by omega), fl_b (r := 0) (by omega) (by omega), Bool.and_eq_false_iff, decide_eq_false_iff_not, decide_eq_false_iff_not] at h1
  exact inR_f (by omega)
theorem n_fill_l {f0 : Row} {I2 : Row} {A2 : Nat → Row} (hi9 : i < 144) (hj9 : j < 144) (hk : ∀ M, MAt M b I2 (stg A2 1 (flP f0 (x + nI 1) i j 144)) → Out M0 M b 13 → WP mX8_fillPlan 227 [some (.ref b), some (.int (nI i)), some (.int (nI j)), some (.int x), some (.int (nI 1)), some (.int (nI (min (i % 12) (j % 12)))), some (.int (nI (max (i % 12) (j % 12)))), some (.int (nI (min (i / 12) (j / 12)))), some (.int (nI (max (i / 12) (j / 12)))), some (.int (nI (cnt (flQ f0 (x + nI 1) i j) (144)))), some (.int (nI (144)))] [] M z 0 0 Φ) : ∀ d k {M : Hp}, k + d = 144 → MAt M b I2 (stg A2 1 (flP f0 (x + nI 1) i j k)) → Out M0 M b 13 → WP mX8_fillPlan 144 [some (.ref b), some (.int (nI i)), some (.int (nI j)), some (.int x), some (.int (nI 1)), some (.int (nI (min (i % 12) (j % 12)))), some (.int (nI (max (i % 12) (j % 12)))), some (.int (nI (min (i / 12) (j / 12)))), some (.int (nI (max (i / 12) (j / 12)))), some (.int (nI (cnt (flQ f0 (x + nI 1) i j) (k)))), some (.int (nI (k)))] [] M z 0 0 Φ := by
  intro d
  induction d with
  | zero =>
    intro k M hkd hA hO
    obtain rfl : k = 144 := by omega
    refine g_iload_10 dX8_fillPlan_144 ?_
    refine g_sipush (v := nI 144) dX8_fillPlan_146 rfl ?_
    refine g_icmp_geN (tgt := 227) dX8_fillPlan_149 (by decide) (by omega) (by omega) (fun _ => ?_) (fun h149 => absurd h149 (by omega))
    exact hk M hA hO
  | succ d ih =>
    intro k M hkd hA hO
    have of0 : ∀ {p : Bool}, p = false → p = false := fun q => q
    refine g_iload_10 dX8_fillPlan_144 ?_
    refine g_sipush (v := nI 144) dX8_fillPlan_146 rfl ?_
    refine g_icmp_geN (tgt := 227) dX8_fillPlan_149 (by decide) (by omega) (by omega) (fun h149 => absurd h149 (by omega)) (fun _ => ?_)
    refine g_iload_10 dX8_fillPlan_152 ?_
    refine g_bipush (v := nI 12) dX8_fillPlan_154 rfl ?_
    refine g_iremN dX8_fillPlan_156 (by omega) (by omega) (by omega) ?_
    refine g_i2l dX8_fillPlan_157 ?_
    refine g_iload_5 dX8_fillPlan_158 ?_
    refine g_i2l dX8_fillPlan_160 ?_
    refine g_iload_6 dX8_fillPlan_161 ?_
    refine g_i2l dX8_fillPlan_163 ?_
    refine g_s3_1 dX8_fillPlan_164 (sX8_53 rfl) rfl (Nat.le_of_ble_eq_true rfl) ⟨rfl, rfl⟩ (Nat.le_of_ble_eq_true rfl) (Nat.le_of_ble_eq_true rfl) (m_inI (by omega) (by omega) (nI_l (by omega)) (nI_l (by omega))) ?_
    refine g_if_eqB (tgt := 221) dX8_fillPlan_167 (by decide)  (fun h167 => ?_) (fun h167 => ?_)
    · refine g_iincN_10 (q9 := 1) rfl dX8_fillPlan_221 rfl ?_
      refine g_goto (tgt := 144) dX8_fillPlan_224 (by decide) ?_
      first
        | (have e := ih (k + 1) (by omega) hA9 (hO.tr (Out.put (by omega) (by omega)))
           first
             | (rw [cnt_t (by show (inR i j k && decide (f0 k ≠ x + nI 1)) = true; rw [fl_in (by omega) h167 h185 hi9 hj9, decide_eq_true h200]; rfl)] at e; exact e)
             | (rw [cnt_f (by show (inR i j k && decide (f0 k ≠ x + nI 1)) = false; rw [fl_in (by omega) h167 h185 hi9 hj9, decide_eq_false (fun q => q h200)]; rfl)] at e; exact e))
        | (have hno : inR i j k = false := by first | exact fl_no1 (by omega) h167 hi9 hj9 | exact fl_no2 (by omega) h185 hi9 hj9
           have e := ih (k + 1) (by omega) (by rw [flP_gap (Nat.le_succ k) (fun q q1 q2 => by rw [show q = k from by omega]; exact hno)]; exact hA) hO
           rw [flQ_gap (Nat.le_succ k) (fun q q1 q2 => by rw [show q = k from by omega]; exact hno)] at e
           exact e)
    · refine g_iload_10 dX8_fillPlan_170 ?_
      refine g_bipush (v := nI 12) dX8_fillPlan_172 rfl ?_
      refine g_idivN dX8_fillPlan_174 (by omega) (by omega) (by omega) ?_
      refine g_i2l dX8_fillPlan_175 ?_
      refine g_iload_7 dX8_fillPlan_176 ?_
      refine g_i2l dX8_fillPlan_178 ?_
      refine g_iload_8 dX8_fillPlan_179 ?_
      refine g_i2l dX8_fillPlan_181 ?_
      refine g_s3_1 dX8_fillPlan_182 (sX8_53 rfl) rfl (Nat.le_of_ble_eq_true rfl) ⟨rfl, rfl⟩ (Nat.le_of_ble_eq_true rfl) (Nat.le_of_ble_eq_true rfl) (m_inI (by omega) (by omega) (nI_l (by omega)) (nI_l (by omega))) ?_
      refine g_if_eqB (tgt := 221) dX8_fillPlan_185 (by decide)  (fun h185 => ?_) (fun h185 => ?_)
      · refine g_iincN_10 (q9 := 1) rfl dX8_fillPlan_221 rfl ?_
        refine g_goto (tgt := 144) dX8_fillPlan_224 (by decide) ?_
        first
          | (have e := ih (k + 1) (by omega) hA9 (hO.tr (Out.put (by omega) (by omega)))
             first
               | (rw [cnt_t (by show (inR i j k && decide (f0 k ≠ x + nI 1)) = true; rw [fl_in (by omega) h167 h185 hi9 hj9, decide_eq_true h200]; rfl)] at e; exact e)
               | (rw [cnt_f (by show (inR i j k && decide (f0 k ≠ x + nI 1)) = false; rw [fl_in (by omega) h167 h185 hi9 hj9, decide_eq_false (fun q => q h200)]; rfl)] at e; exact e))
          | (have hno : inR i j k = false := by first | exact fl_no1 (by omega) h167 hi9 hj9 | exact fl_no2 (by omega) h185 hi9 hj9
             have e := ih (k + 1) (by omega) (by rw [flP_gap (Nat.le_succ k) (fun q q1 q2 => by rw [show q = k from by omega]; exact hno)]; exact hA) hO
             rw [flQ_gap (Nat.le_succ k) (fun q q1 q2 => by rw [show q = k from by omega]; exact hno)] at e
             exact e)
      · refine g_iload_9 dX8_fillPlan_188 ?_
        refine g_aload_0 dX8_fillPlan_190 ?_
        refine g_get dX8_fillPlan_191 (fX8_7 rfl) hA.1 rfl ?_
        refine g_iload_10 dX8_fillPlan_194 ?_
        refine g_ialdN dX8_fillPlan_196 hA.2.1 (by omega) (by decide) ?_
        rw [show stg A2 1 (flP f0 (x + nI 1) i j k) 1 k = f0 k from (congrFun stg_eq _).trans flP_at]
        refine g_iload_3 dX8_fillPlan_197 ?_
        refine g_iconst (v := nI 1) dX8_fillPlan_198 rfl ?_
        refine g_iadd dX8_fillPlan_199 ?_
        refine g_icmp_ne (tgt := 207) dX8_fillPlan_200 (by decide)  (fun h200 => ?_) (fun h200 => ?_)
        · refine g_iconst (v := nI 1) dX8_fillPlan_207 rfl ?_
          refine g_iaddN dX8_fillPlan_208 ?_
          refine g_istore_9 rfl dX8_fillPlan_209 ?_
          refine g_aload_0 dX8_fillPlan_211 ?_
          refine g_get dX8_fillPlan_212 (fX8_7 rfl) hA.1 rfl ?_
          refine g_iload_10 dX8_fillPlan_215 ?_
          refine g_iload_3 dX8_fillPlan_217 ?_
          refine g_iconst (v := nI 1) dX8_fillPlan_218 rfl ?_
          refine g_iadd dX8_fillPlan_219 ?_
          refine g_iastN dX8_fillPlan_220 hA.2.1 (by omega) (by decide) ?_
          have hA9 := hA.a1 (g := flP f0 (x + nI 1) i j (k + 1))
          rw [stg_stg] at hA9
          rw [show stg A2 1 (flP f0 (x + nI 1) i j k) 1 = flP f0 (x + nI 1) i j k from stg_eq, flP_step (fl_in (by omega) h167 h185 hi9 hj9)]
          refine g_iincN_10 (q9 := 1) rfl dX8_fillPlan_221 rfl ?_
          refine g_goto (tgt := 144) dX8_fillPlan_224 (by decide) ?_
          first
            | (have e := ih (k + 1) (by omega) hA9 (hO.tr (Out.put (by omega) (by omega)))
               first
                 | (rw [cnt_t (by show (inR i j k && decide (f0 k ≠ x + nI 1)) = true; rw [fl_in (by omega) h167 h185 hi9 hj9, decide_eq_true h200]; rfl)] at e; exact e)
                 | (rw [cnt_f (by show (inR i j k && decide (f0 k ≠ x + nI 1)) = false; rw [fl_in (by omega) h167 h185 hi9 hj9, decide_eq_false (fun q => q h200)]; rfl)] at e; exact e))
            | (have hno : inR i j k = false := by first | exact fl_no1 (by omega) h167 hi9 hj9 | exact fl_no2 (by omega) h185 hi9 hj9
               have e := ih (k + 1) (by omega) (by rw [flP_gap (Nat.le_succ k) (fun q q1 q2 => by rw [show q = k from by omega]; exact hno)]; exact hA) hO
               rw [flQ_gap (Nat.le_succ k) (fun q q1 q2 => by rw [show q = k from by omega]; exact hno)] at e
               exact e)
        · refine g_iconst (v := nI 0) dX8_fillPlan_203 rfl ?_
          refine g_goto (tgt := 208) dX8_fillPlan_204 (by decide) ?_
          refine g_iaddN dX8_fillPlan_208 ?_
          refine g_istore_9 rfl dX8_fillPlan_209 ?_
          refine g_aload_0 dX8_fillPlan_211 ?_
          refine g_get dX8_fillPlan_212 (fX8_7 rfl) hA.1 rfl ?_
          refine g_iload_10 dX8_fillPlan_215 ?_
          refine g_iload_3 dX8_fillPlan_217 ?_
          refine g_iconst (v := nI 1) dX8_fillPlan_218 rfl ?_
          refine g_iadd dX8_fillPlan_219 ?_
          refine g_iastN dX8_fillPlan_220 hA.2.1 (by omega) (by decide) ?_
          have hA9 := hA.a1 (g := flP f0 (x + nI 1) i j (k + 1))
          rw [stg_stg] at hA9
          rw [show stg A2 1 (flP f0 (x + nI 1) i j k) 1 = flP f0 (x + nI 1) i j k from stg_eq, flP_step (fl_in (by omega) h167 h185 hi9 hj9)]
          refine g_iincN_10 (q9 := 1) rfl dX8_fillPlan_221 rfl ?_
          refine g_goto (tgt := 144) dX8_fillPlan_224 (by decide) ?_
          first
            | (have e := ih (k + 1) (by omega) hA9 (hO.tr (Out.put (by omega) (by omega)))
               first
                 | (rw [cnt_t (by show (inR i j k && decide (f0 k ≠ x + nI 1)) = true; rw [fl_in (by omega) h167 h185 hi9 hj9, decide_eq_true h200]; rfl)] at e; exact e)
                 | (rw [cnt_f (by show (inR i j k && decide (f0 k ≠ x + nI 1)) = false; rw [fl_in (by omega) h167 h185 hi9 hj9, decide_eq_false (fun q => q h200)]; rfl)] at e; exact e))
            | (have hno : inR i j k = false := by first | exact fl_no1 (by omega) h167 hi9 hj9 | exact fl_no2 (by omega) h185 hi9 hj9
               have e := ih (k + 1) (by omega) (by rw [flP_gap (Nat.le_succ k) (fun q q1 q2 => by rw [show q = k from by omega]; exact hno)]; exact hA) hO
               rw [flQ_gap (Nat.le_succ k) (fun q q1 q2 => by rw [show q = k from by omega]; exact hno)] at e
               exact e)
theorem n_fill138 {f0 : Row} {I2 : Row} {A2 : Nat → Row} {l9 l10 : Option Value} (hi9 : i < 144) (hj9 : j < 144) (hA : MAt M b I2 A2) (hf : A2 1 = f0) (hO : Out M0 M b 13) (hk : ∀ M, MAt M b I2 (stg A2 1 (flP f0 (x + nI 1) i j 144)) → Out M0 M b 13 → WP mX8_fillPlan 227 [some (.ref b), some (.int (nI i)), some (.int (nI j)), some (.int x), some (.int (nI 1)), some (.int (nI (min (i % 12) (j % 12)))), some (.int (nI (max (i % 12) (j % 12)))), some (.int (nI (min (i / 12) (j / 12)))), some (.int (nI (max (i / 12) (j / 12)))), some (.int (nI (cnt (flQ f0 (x + nI 1) i j) (144)))), some (.int (nI (144)))] [] M z 0 0 Φ) : WP mX8_fillPlan 138 [some (.ref b), some (.int (nI i)), some (.int (nI j)), some (.int x), some (.int (nI 1)), some (.int (nI (min (i % 12) (j % 12)))), some (.int (nI (max (i % 12) (j % 12)))), some (.int (nI (min (i / 12) (j / 12)))), some (.int (nI (max (i / 12) (j / 12)))), l9, l10] [] M z 0 0 Φ := by
  refine g_iconst (v := nI 0) dX8_fillPlan_138 rfl ?_
  refine g_istore_9 rfl dX8_fillPlan_139 ?_
  refine g_iconst (v := nI 0) dX8_fillPlan_141 rfl ?_
  refine g_istore_10 rfl dX8_fillPlan_142 ?_
  refine n_fill_l hi9 hj9 hk 144 0 rfl ?_ hO
  rw [show flP f0 (x + nI 1) i j 0 = f0 from by funext k; exact if_neg (by omega), ← hf, stg_self]
  exact hA
theorem n_fill122 {l7 l8 l9 l10 : Option Value} (hi9 : i < 144) (hj9 : j < 144) (hk : WP mX8_fillPlan 138 [some (.ref b), some (.int (nI i)), some (.int (nI j)), some (.int x), some (.int (nI 1)), some (.int (nI (min (i % 12) (j % 12)))), some (.int (nI (max (i % 12) (j % 12)))), some (.int (nI (min (i / 12) (j / 12)))), some (.int (nI (max (i / 12) (j / 12)))), l9, l10] [] M z 0 0 Φ) : WP mX8_fillPlan 122 [some (.ref b), some (.int (nI i)), some (.int (nI j)), some (.int x), some (.int (nI 1)), some (.int (nI (min (i % 12) (j % 12)))), some (.int (nI (max (i % 12) (j % 12)))), l7, l8, l9, l10] [.int (nI (min (i / 12) (j / 12)))] M z 0 0 Φ := by
  refine g_istore_7 rfl dX8_fillPlan_122 ?_
  refine g_iload_1 dX8_fillPlan_124 ?_
  refine g_bipush (v := nI 12) dX8_fillPlan_125 rfl ?_
  refine g_idivN dX8_fillPlan_127 (by omega) (by omega) (by omega) ?_
  refine g_iload_2 dX8_fillPlan_128 ?_
  refine g_bipush (v := nI 12) dX8_fillPlan_129 rfl ?_
  refine g_idivN dX8_fillPlan_131 (by omega) (by omega) (by omega) ?_
  refine g_iaddN dX8_fillPlan_132 ?_
  refine g_iload_7 dX8_fillPlan_133 ?_
  refine g_isubN dX8_fillPlan_135 (by omega) ?_
  rw [show i / 12 + j / 12 - min (i / 12) (j / 12) = max (i / 12) (j / 12) from by omega]
  refine g_istore_8 rfl dX8_fillPlan_136 ?_
  exact hk
theorem n_fill98 {l7 l8 l9 l10 : Option Value} (hi9 : i < 144) (hj9 : j < 144) (hk : WP mX8_fillPlan 138 [some (.ref b), some (.int (nI i)), some (.int (nI j)), some (.int x), some (.int (nI 1)), some (.int (nI (min (i % 12) (j % 12)))), some (.int (nI (max (i % 12) (j % 12)))), some (.int (nI (min (i / 12) (j / 12)))), some (.int (nI (max (i / 12) (j / 12)))), l9, l10] [] M z 0 0 Φ) : WP mX8_fillPlan 100 [some (.ref b), some (.int (nI i)), some (.int (nI j)), some (.int x), some (.int (nI 1)), some (.int (nI (min (i % 12) (j % 12)))), some (.int (nI (max (i % 12) (j % 12)))), l7, l8, l9, l10] [] M z 0 0 Φ := by
  refine g_iload_1 dX8_fillPlan_100 ?_
  refine g_bipush (v := nI 12) dX8_fillPlan_101 rfl ?_
  refine g_idivN dX8_fillPlan_103 (by omega) (by omega) (by omega) ?_
  refine g_iload_2 dX8_fillPlan_104 ?_
  refine g_bipush (v := nI 12) dX8_fillPlan_105 rfl ?_
  refine g_idivN dX8_fillPlan_107 (by omega) (by omega) (by omega) ?_
  refine g_icmp_geN (tgt := 118) dX8_fillPlan_108 (by decide) (by omega) (by omega) (fun h108 => ?_) (fun h108 => ?_)
  · refine g_iload_2 dX8_fillPlan_118 ?_
    refine g_bipush (v := nI 12) dX8_fillPlan_119 rfl ?_
    refine g_idivN dX8_fillPlan_121 (by omega) (by omega) (by omega) ?_
    have e := n_fill122 (z := z) (M := M) (l7 := l7) (l8 := l8) (l9 := l9) (l10 := l10) hi9 hj9 hk
    first
      | (rw [show min (i / 12) (j / 12) = i / 12 from by omega] at e; exact e)
      | (rw [show min (i / 12) (j / 12) = j / 12 from by omega] at e; exact e)
  · refine g_iload_1 dX8_fillPlan_111 ?_
    refine g_bipush (v := nI 12) dX8_fillPlan_112 rfl ?_
    refine g_idivN dX8_fillPlan_114 (by omega) (by omega) (by omega) ?_
    refine g_goto (tgt := 122) dX8_fillPlan_115 (by decide) ?_
    have e := n_fill122 (z := z) (M := M) (l7 := l7) (l8 := l8) (l9 := l9) (l10 := l10) hi9 hj9 hk
    first
      | (rw [show min (i / 12) (j / 12) = i / 12 from by omega] at e; exact e)
      | (rw [show min (i / 12) (j / 12) = j / 12 from by omega] at e; exact e)
theorem n_fill84 {l5 l6 l7 l8 l9 l10 : Option Value} (hi9 : i < 144) (hj9 : j < 144) (hk : WP mX8_fillPlan 138 [some (.ref b), some (.int (nI i)), some (.int (nI j)), some (.int x), some (.int (nI 1)), some (.int (nI (min (i % 12) (j % 12)))), some (.int (nI (max (i % 12) (j % 12)))), some (.int (nI (min (i / 12) (j / 12)))), some (.int (nI (max (i / 12) (j / 12)))), l9, l10] [] M z 0 0 Φ) : WP mX8_fillPlan 84 [some (.ref b), some (.int (nI i)), some (.int (nI j)), some (.int x), some (.int (nI 1)), l5, l6, l7, l8, l9, l10] [.int (nI (min (i % 12) (j % 12)))] M z 0 0 Φ := by
  refine g_istore_5 rfl dX8_fillPlan_84 ?_
  refine g_iload_1 dX8_fillPlan_86 ?_
  refine g_bipush (v := nI 12) dX8_fillPlan_87 rfl ?_
  refine g_iremN dX8_fillPlan_89 (by omega) (by omega) (by omega) ?_
  refine g_iload_2 dX8_fillPlan_90 ?_
  refine g_bipush (v := nI 12) dX8_fillPlan_91 rfl ?_
  refine g_iremN dX8_fillPlan_93 (by omega) (by omega) (by omega) ?_
  refine g_iaddN dX8_fillPlan_94 ?_
  refine g_iload_5 dX8_fillPlan_95 ?_
  refine g_isubN dX8_fillPlan_97 (by omega) ?_
  rw [show i % 12 + j % 12 - min (i % 12) (j % 12) = max (i % 12) (j % 12) from by omega]
  refine g_istore_6 rfl dX8_fillPlan_98 ?_
  exact n_fill98 hi9 hj9 hk
theorem n_fill62 {l5 l6 l7 l8 l9 l10 : Option Value} (hi9 : i < 144) (hj9 : j < 144) (hk : WP mX8_fillPlan 138 [some (.ref b), some (.int (nI i)), some (.int (nI j)), some (.int x), some (.int (nI 1)), some (.int (nI (min (i % 12) (j % 12)))), some (.int (nI (max (i % 12) (j % 12)))), some (.int (nI (min (i / 12) (j / 12)))), some (.int (nI (max (i / 12) (j / 12)))), l9, l10] [] M z 0 0 Φ) : WP mX8_fillPlan 62 [some (.ref b), some (.int (nI i)), some (.int (nI j)), some (.int x), some (.int (nI 1)), l5, l6, l7, l8, l9, l10] [] M z 0 0 Φ := by
  refine g_iload_1 dX8_fillPlan_62 ?_
  refine g_bipush (v := nI 12) dX8_fillPlan_63 rfl ?_
  refine g_iremN dX8_fillPlan_65 (by omega) (by omega) (by omega) ?_
  refine g_iload_2 dX8_fillPlan_66 ?_
  refine g_bipush (v := nI 12) dX8_fillPlan_67 rfl ?_
  refine g_iremN dX8_fillPlan_69 (by omega) (by omega) (by omega) ?_
  refine g_icmp_geN (tgt := 80) dX8_fillPlan_70 (by decide) (by omega) (by omega) (fun h70 => ?_) (fun h70 => ?_)
  · refine g_iload_2 dX8_fillPlan_80 ?_
    refine g_bipush (v := nI 12) dX8_fillPlan_81 rfl ?_
    refine g_iremN dX8_fillPlan_83 (by omega) (by omega) (by omega) ?_
    have e := n_fill84 (z := z) (M := M) (l5 := l5) (l6 := l6) (l7 := l7) (l8 := l8) (l9 := l9) (l10 := l10) hi9 hj9 hk
    first
      | (rw [show min (i % 12) (j % 12) = i % 12 from by omega] at e; exact e)
      | (rw [show min (i % 12) (j % 12) = j % 12 from by omega] at e; exact e)
  · refine g_iload_1 dX8_fillPlan_73 ?_
    refine g_bipush (v := nI 12) dX8_fillPlan_74 rfl ?_
    refine g_iremN dX8_fillPlan_76 (by omega) (by omega) (by omega) ?_
    refine g_goto (tgt := 84) dX8_fillPlan_77 (by decide) ?_
    have e := n_fill84 (z := z) (M := M) (l5 := l5) (l6 := l6) (l7 := l7) (l8 := l8) (l9 := l9) (l10 := l10) hi9 hj9 hk
    first
      | (rw [show min (i % 12) (j % 12) = i % 12 from by omega] at e; exact e)
      | (rw [show min (i % 12) (j % 12) = j % 12 from by omega] at e; exact e)
theorem n_fillPlan (hA : MAt M b I A) (hr : MRel I A f t n h sv len g) (hi : i < 144) (hj : j < 144) (hx1 : ¬ x < -1) (hx2 : x ≤ nI 4) : Runs mX8_fillPlan [.ref b, .int (nI i), .int (nI j), .int x] M z (MoQ (some (.int (nI (cnt (flQ f (x + nI 1) i j) 144)))) 0 M b (flP f (x + nI 1) i j 144) (t) (remN n) (remH n h f) sv len g z) := by
  obtain ⟨rfl, rfl, h12, hn14, h9, ⟨h11, h10⟩, h16, hl, hT⟩ := id hr
  refine runs_of plX8 rfl (Nat.le_of_ble_eq_true rfl) ?_
  show WP mX8_fillPlan 0 [some (.ref b), some (.int (nI i)), some (.int (nI j)), some (.int x), none, none, none, none, none, none, none] [] M z 0 0 _
  refine g_iload_1 dX8_fillPlan_0 ?_
  refine g_s1_1 dX8_fillPlan_1 (sX8_186 rfl) rfl (Nat.le_of_ble_eq_true rfl) ⟨rfl, rfl⟩ (Nat.le_of_ble_eq_true rfl) (Nat.le_of_ble_eq_true rfl) (m_isCell_ok hi) ?_
  refine g_if_eqB (tgt := 18) dX8_fillPlan_4 (by decide)  (fun h4 => absurd h4 (by decide)) (fun _ => ?_)
  refine g_iload_2 dX8_fillPlan_7 ?_
  refine g_s1_1 dX8_fillPlan_8 (sX8_186 rfl) rfl (Nat.le_of_ble_eq_true rfl) ⟨rfl, rfl⟩ (Nat.le_of_ble_eq_true rfl) (Nat.le_of_ble_eq_true rfl) (m_isCell_ok hj) ?_
  refine g_if_eqB (tgt := 18) dX8_fillPlan_11 (by decide)  (fun h11 => absurd h11 (by decide)) (fun _ => ?_)
  refine g_iconst (v := nI 1) dX8_fillPlan_14 rfl ?_
  refine g_goto (tgt := 19) dX8_fillPlan_15 (by decide) ?_
  refine g_istore_4 rfl dX8_fillPlan_19 ?_
  refine g_aload_0 dX8_fillPlan_21 ?_
  refine g_iload_4 dX8_fillPlan_22 ?_
  refine g_if_neN (tgt := 31) dX8_fillPlan_24 (by decide) (by omega) (fun _ => ?_) (fun h24 => absurd h24 (by decide))
  refine g_iload_3 dX8_fillPlan_31 ?_
  refine g_i2l dX8_fillPlan_32 ?_
  refine g_ldc2 dX8_fillPlan_33 (zX8_219 rfl) ?_
  refine g_ldc2 dX8_fillPlan_36 (zX8_57 rfl) ?_
  refine g_s3_1 dX8_fillPlan_39 (sX8_53 rfl) rfl (Nat.le_of_ble_eq_true rfl) ⟨rfl, rfl⟩ (Nat.le_of_ble_eq_true rfl) (Nat.le_of_ble_eq_true rfl) (m_inC_ok hx1 hx2) ?_
  refine g_if_neB (tgt := 49) dX8_fillPlan_42 (by decide)  (fun _ => ?_) (fun h42 => absurd h42 (by decide))
  refine g_iconst (v := nI 0) dX8_fillPlan_49 rfl ?_
  refine g_v1 dX8_fillPlan_50 (vX8_149 rfl) rfl hA.1 (Nat.le_of_ble_eq_true rfl) (Nat.le_of_ble_eq_true rfl) (Nat.le_of_ble_eq_true rfl) (m_ref0 hA) (fun r1 M1 z1 hq1 => ?_) (fun E M2 z2 hq => by obtain ⟨hq, -⟩ := hq; cases hq)
  obtain ⟨hr1, hA1, hO1, hz1⟩ := hq1
  cases hr1
  subst hz1
  refine g_if_eqB (tgt := 58) dX8_fillPlan_53 (by decide)  (fun _ => ?_) (fun h53 => absurd h53 (by decide))
  refine g_aload_0 dX8_fillPlan_58 ?_
  refine g_v0 dX8_fillPlan_59 (vX8_141 rfl) rfl hA1.1 (Nat.le_of_ble_eq_true rfl) (Nat.le_of_ble_eq_true rfl) (Nat.le_of_ble_eq_true rfl) (m_remember hA1 (by rw [upd_ne (by decide)]; exact h12) hn14) (fun r2 M2 z2 hq2 => ?_) (fun E M2 z2 hq => by obtain ⟨hq, -⟩ := hq; cases hq)
  obtain ⟨hr2, hA2, hO2, hz2⟩ := hq2
  cases hr2
  subst hz2
  have hr2 := (hr.i0 (v := nI 0)).rem
  have hR2 : RowAt M2 (b + 1) (A 1) := hA2.2.1
  have hO2 := hO1.tr hO2
  have h02 : upd (upd I 0 (nI 0)) 12 (nI (remN n)) 0 = nI 0 := (upd_ne (by decide)).trans upd_eq
  refine n_fill62 hi hj (n_fill138 hi hj hA2 rfl hO2 (fun M3 hA3 hO3 => ?_))
  refine g_iload_9 dX8_fillPlan_227 ?_
  exact g_ireturn rfl rfl dX8_fillPlan_229 (Nat.le_of_ble_eq_true rfl) (Nat.le_of_ble_eq_true rfl) ⟨rfl, ⟨_, _, hA3, h02, hr2.r1⟩, hO3, rfl⟩
end P71
