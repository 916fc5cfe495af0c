section P74
variable {M : Hp} {z a b o lo n len i j k c s m hd : Nat} {f t f0 : Row} {h : Nat → Row} {sv : Nat → Option Row} {g : Nat → Nat} {x y w0 w1 w2 : Int32} {sd : Int64}
theorem rng_cases (x : Int32) (lo hi : Nat) (hh : hi + 1 < 2 ^ 31) (hl : lo ≤ hi) : (∃ m, lo ≤ m ∧ m ≤ hi ∧ x = nI m) ∨ (x < nI lo ∨ nI hi < x) := by
  rcases nI_cases x (N := hi + 1) (by omega) with ⟨j, hj, rfl⟩ | hx | hx
  · by_cases q : lo ≤ j
    · exact Or.inl ⟨j, q, by omega, rfl⟩
    · exact Or.inr (Or.inl (nI_lt (by omega) (by omega)))
  · refine Or.inr (Or.inl ?_)
    rw [Int32.lt_iff_toInt_lt] at hx ⊢
    rw [nI_toInt (by omega)]
    rw [Int32.toInt_zero] at hx
    omega
  · exact Or.inr (Or.inr (nI_s_le hh hx))
theorem col_cases (x : Int32) : (∃ m, m < 6 ∧ x + nI 1 = nI m ∧ ¬ x < -1 ∧ x ≤ nI 4) ∨ (x < -1 ∨ nI 4 < x) := by
  rcases nI_cases x (N := 5) (by decide) with ⟨j, hj, rfl⟩ | hx | hx
  · exact Or.inl ⟨j + 1, by omega, nI_add j 1, nI_nltm (by omega), nI_le (by omega) (by decide)⟩
  · by_cases q : x = -1
    · subst q
      exact Or.inl ⟨0, by decide, by decide, by decide, by decide⟩
    · refine Or.inr (Or.inl ?_)
      rw [Int32.lt_iff_toInt_lt] at hx ⊢
      rw [Int32.toInt_zero] at hx
      have e : (-1 : Int32).toInt = -1 := by decide
      have : x.toInt ≠ -1 := fun w => q (Int32.toInt_inj.mp (w.trans e.symm))
      rw [e]
      omega
  · exact Or.inr (Or.inr (nI_s_le (by decide) hx))
theorem Good.keeps {f' : Row} (hG : Good f) (hk : Keeps f f') : Good f' := ⟨hk.1, mot_cong (fun k a _ => hk.2.1 k a) hG.2.1, hk.2.2 hG.2.2⟩
theorem plan_ok (hj : j < 144) (hm : m < 6) (hI : Rng f) : Keeps f (upd f j (nI m)) := ⟨hI.plan1 hj hm, fun k hk => upd_ne (by omega), fun hC => hC.free (by omega)⟩
theorem fill_keep {p q : Nat} (hm : m < 6) : ∀ r, r ≤ 144 → ∀ {f : Row}, Rng f → Keeps f (flP f (nI m) p q r)
  | 0, _, f, hI => by
    rw [show flP f (nI m) p q 0 = f from by funext k; exact if_neg (by omega)]
    exact Keeps.rf hI
  | r + 1, hr, f, hI => by
    have ih := fill_keep (p := p) (q := q) hm r (by omega) hI
    by_cases w : inR p q r = true
    · rw [← flP_step w]
      have k2 := plan_ok (j := r) (by omega) hm ih.1
      exact ⟨k2.1, fun k hk => (k2.2.1 k hk).trans (ih.2.1 k hk), fun hC => k2.2.2 (ih.2.2 hC)⟩
    · rw [flP_gap (Nat.le_succ r) (fun k k1 k2 => by rw [show k = r from by omega]; simpa using w)]
      exact ih
theorem place_ok (hj : j < 144) (hh : hd < 4) (hI : Rng f) : Keeps f (upd (upd f 457 (nI j)) 458 (nI hd)) := ⟨(hI.s457 hj).s458 hh, fun k hk => (upd_ne (by omega)).trans (upd_ne (by omega)), fun hC => (hC.free (by omega)).free (by omega)⟩
theorem wind_ok (hc : c < 5) (h1 : 1 ≤ m) (h2 : m ≤ 9999) (hw : f (432 + 5 * c) + nI m ≤ nI 20000) (hI : Rng f) : Keeps f (upd (upd f (432 + 5 * c) (f (432 + 5 * c) + nI m)) (433 + 5 * c) (f (433 + 5 * c) + nI m)) := by
  have hb := hI.2.2.2.1 c hc
  have hw' := hw
  have hb2 := hb.2
  rw [hb.1, nI_add, Int32.le_iff_toInt_le, nI_toInt (by omega), nI_toInt (by omega)] at hw'
  refine ⟨?_, fun k hk => (upd_ne (by omega)).trans (upd_ne (by omega)), fun hC => hC.wind hc⟩
  have e : f (432 + 5 * c) + nI m = nI (gv f (432 + 5 * c) + m) := by
    conv => lhs; rw [hb.1]
    exact nI_add _ _
  rw [e]
  exact (hI.cone hc (by omega)).free (Or.inr ⟨c, hc, Or.inl rfl⟩)
theorem store_good (hG : Good f) (hs : s < 4) (hg : CharsOK g) (hl : len ≤ 120) (ht : TxOK g len) (hm : hasM g len s len 0 = false) : Good (f_store f s len g) := by
  obtain ⟨hI, hM, hC⟩ := hG
  have e : ∀ k, k < 463 → f_store f s len g k = f k := fun k hk => st_ne (by omega) (by omega)
  have eg : ∀ k, k < 463 → gv (f_store f s len g) k = gv f k := fun k hk => by unfold gv; rw [e k hk]
  have eb : ∀ k b, k < 463 → Bd f k b → Bd (f_store f s len g) k b := fun k b hk h => by unfold Bd; rw [e k hk, eg k hk]; exact h
  have el : gv (f_store f s len g) (463 + s) = len := gv_of st_ln (by omega)
  have eln : mLn (f_store f s len g) s = len := el
  have et : ∀ i, i < len → mT (f_store f s len g) s i = g i := fun i hi => by
    unfold mT
    rw [eln, if_pos hi]
    exact gv_of (st_sg hs hi hl) (by have := hg i; omega)
  have eo : ∀ q, q < 4 → q ≠ s → ∀ k, (k = 463 + q ∨ (467 + 120 * q ≤ k ∧ k < 467 + 120 * q + 120)) → f_store f s len g k = f k := fun q hq hne k hk => st_ne (by omega) (by omega)
  obtain ⟨h0, hv⟩ := ht.v hl
  refine ⟨⟨fun q hq => eb _ _ (by omega) (hI.1 q hq), fun q hq => eb _ _ (by omega) (hI.2.1 q hq), fun q hq hq2 => ?_, fun q hq => eb _ _ (by omega) (hI.2.2.2.1 q hq), ⟨eb _ _ (by omega) hI.2.2.2.2.1.1, eb _ _ (by omega) hI.2.2.2.2.1.2.1, eb _ _ (by omega) hI.2.2.2.2.1.2.2.1, eb _ _ (by omega) hI.2.2.2.2.1.2.2.2.1, by rw [eg _ (by omega)]; exact hI.2.2.2.2.1.2.2.2.2⟩, fun q hq => ?_⟩, fun q hq => ?_, fun c hc => ?_⟩
  · rw [e _ (by omega)] at hq2
    obtain ⟨b1, b2⟩ := hI.2.2.1 q hq hq2
    exact ⟨eb _ _ (by omega) b1, by rw [eg _ (by omega)]; exact b2⟩
  · by_cases q9 : q = s
    · subst q9
      exact Bd.of st_ln (by omega) (by decide)
    · have := eo q hq q9 (463 + q) (Or.inl rfl)
      unfold Bd gv
      rw [this]
      exact hI.2.2.2.2.2 q hq
  · by_cases q9 : q = s
    · subst q9
      refine ⟨Bd.of st_ln (by omega) (by decide), fun i hi => ?_, ?_, fun i hi h9 => ?_⟩
      · rw [eln] at hi
        exact Bd.of (st_sg hs hi hl) (hg i) (by decide)
      · rw [eln]
        have ec : ∀ w p aw ins, p + w = len → pf (mT (f_store f q len g) q) len w p aw ins = pf g len w p aw ins := by
          intro w
          induction w with
          | zero => intro p aw ins _; rfl
          | succ w ih =>
            intro p aw ins hp
            show (if stp aw (mT (f_store f q len g) q p) ins = 9 then nI p else pf (mT (f_store f q len g) q) len w (p + 1) (stp aw (mT (f_store f q len g) q p) ins) (insA (mT (f_store f q len g) q p) ins)) = (if stp aw (g p) ins = 9 then nI p else pf g len w (p + 1) (stp aw (g p) ins) (insA (g p) ins))
            rw [et p (by omega), ih (p + 1) _ _ (by omega)]
        show pf (mT (f_store f q len g) q) len (len - 0) 0 1 false = -1
        rw [ec (len - 0) 0 1 false (by omega)]
        exact hv
      · rw [eln] at hi
        rw [et i (by omega)] at h9
        rw [et (i + 1) hi]
        have d := m_digs hl len (p := 0) (aw := 0) (ins := false) (by omega) ht i (by omega) (by omega) h9
        have hno := hasM_f (n := q) hg len 0 hm i (by omega) (by omega) h9
        rw [show sgn len g (i + 1) = g (i + 1) from if_pos hi, pk_sub (by omega)] at hno
        have := Int32.not_le.mp hno
        rw [Int32.lt_iff_toInt_lt, nI_toInt (by omega), nI_toInt (by omega)] at this
        omega
    · have e1 : mLn (f_store f s len g) q = mLn f q := by unfold mLn gv; rw [eo q hq q9 _ (Or.inl rfl)]
      have hl9 := mLn_le hM hq
      have e2 : mT (f_store f s len g) q = mT f q := by
        funext i
        unfold mT
        rw [e1]
        by_cases w : i < mLn f q
        · rw [if_pos w, if_pos w]
          unfold gv
          rw [eo q hq q9 _ (Or.inr (by omega))]
        · rw [if_neg w, if_neg w]
      rw [e1, e2]
      obtain ⟨a1, a2, a3, a4⟩ := hM q hq
      refine ⟨?_, fun i hi => ?_, a3, a4⟩
      · unfold Bd gv
        rw [eo q hq q9 _ (Or.inl rfl)]
        exact a1
      · unfold Bd gv
        rw [eo q hq q9 _ (Or.inr (by omega))]
        exact a2 i hi
  · have := hC c hc
    rw [e _ (by omega), e _ (by omega), e _ (by omega), e _ (by omega), e _ (by omega), smC_cong (f' := f_store f s len g) (f := f) (fun i hi => by unfold trm; rw [e _ (by omega), e _ (by omega)])]
    exact this
theorem SOp.okB {Pv : Int32 → Prop} {bq : Bool} {t' : Row} (hJ : JInv M a b o lo z f t n h sv len g) (hP : Pv (bI bq)) (hc : Runs mX7_isSkipped [.ref a, .int w0] M z (CQ (some (.int (bI bq))) M a lo f n h sv len g z)) (hm : ∀ M' z' I A, MAt M' b I A → MRel I A f t n h sv len g → Runs mX8_isSkipped [.ref b, .int w0] M' z' (MoQ (some (.int (bI bq))) 0 M' b f t' n h sv len g z')) : SOp Pv mL_isSkipped mX8_isSkipped [.int w0] M a b o lo z := by
  obtain ⟨hC, ⟨I, A, hA, hr⟩, ⟨fo, hfo⟩, hG0, l1, l2, l3⟩ := hJ
  refine ⟨0, bI bq, fun M2 z2 => ∃ M1 fo, (CInv M1 a lo z2 f n h sv len g ∧ CFr M M1 a lo z z2) ∧ M1 o = some (aJ 1 fo) ∧ M2 = hpu M1 o (aJ 1 (vp_updL fo 0 (bI bq).toInt64)), by decide, fun _ => hP, wok_isSkipped' (Q := fun M' z' => CInv M' a lo z' f n h sv len g ∧ CFr M M' a lo z z') ⟨_, hC.1⟩ (c_mono hc (fun r M' z' hq => ⟨hq.1, hq.2⟩)) (fun M' z' hq => ⟨fo, (hq.2.2 o (by omega) (by omega)).trans hfo⟩), ?_⟩
  rintro M2 z2 ⟨M1, fo1, ⟨hC1, hF1⟩, ho1, rfl⟩
  have hA2 : MAt (hpu M1 o (aJ 1 (vp_updL fo1 0 (bI bq).toInt64))) b I A := hA.keep (fun q q1 q2 => (hpu_ne _ _ (by omega)).trans (hF1.2 q (by omega) (by omega)))
  have l4 := hC.2.2.2.2.2.2.2.1
  refine ⟨⟨⟨I, A, hA2⟩, fun q h => (hpu_ne _ _ (by omega)).trans (hF1.2 q (by omega) (by omega))⟩, c_mono (hm _ z2 I A hA2 hr) (fun r M3 z3 hq => ?_)⟩
  obtain ⟨h1, ⟨I3, A3, hA3, hk3, hr3⟩, hO3, rfl⟩ := hq
  have hfo3 : M3 o = some (aJ 1 (vp_updL fo1 0 (bI bq).toInt64)) := (hO3 o (by omega)).trans (hpu_same _ _ _)
  refine ⟨h1, ⟨⟨I3, A3, hA3, hk3⟩, ⟨_, hfo3, fun _ => by simp [vp_updL]⟩, f, t', n, h, sv, len, g, hC1.keep (Nat.le_refl _) (fun q q1 => (hO3 q (by omega)).trans (hpu_ne _ _ (by omega))), ⟨I3, A3, hA3, hr3⟩, ⟨_, hfo3⟩, hG0, l1, l2, l3⟩, fun q h => hO3 q (by omega)⟩
theorem s_planOf (hJ : JInv M a b o lo z f t n h sv len g) : SOp (fun _ => True) mL_planOf mX8_planOf [.int w0] M a b o lo z := by
  have hC := hJ.1
  have hG := hJ.2.2.2.1
  obtain ⟨⟨hI, hM, hK⟩, hGh, hGs, hl, hg⟩ := id hG
  have hn := hJ.n14
  have hIt : Rng (mx 947 f t) := mx_eq9.rng hI
  have hMt : MotOK (mx 947 f t) := mot_cong (fun k _ k2 => mx_eq9 k k2) hM
  rcases nI_cases w0 (N := 144) (by decide) with ⟨j, hj, rfl⟩ | hx
  · exact SOp.ok wok_planOf hJ hG trivial (hC.rd (c_planOf hC hI hj)) (fun M9 z9 I9 A9 hA9 hr9 => n_planOf hA9 hr9 hj)
  · exact SOp.no wno_planOf1 (by decide) (by decide) hJ (c_planOf_x hC hx) (fun M9 z9 I9 A9 hA9 hr9 => n_planOf_x1 hA9 hr9 hx)

theorem s_loopOf (hJ : JInv M a b o lo z f t n h sv len g) : SOp (fun _ => True) mL_loopOf mX8_loopOf [.int w0] M a b o lo z := by
  have hC := hJ.1
  have hG := hJ.2.2.2.1
  obtain ⟨⟨hI, hM, hK⟩, hGh, hGs, hl, hg⟩ := id hG
  have hn := hJ.n14
  have hIt : Rng (mx 947 f t) := mx_eq9.rng hI
  have hMt : MotOK (mx 947 f t) := mot_cong (fun k _ k2 => mx_eq9 k k2) hM
  rcases nI_cases w0 (N := 144) (by decide) with ⟨j, hj, rfl⟩ | hx
  · exact SOp.ok wok_loopOf hJ hG trivial (hC.rd (c_loopOf hC hI hj)) (fun M9 z9 I9 A9 hA9 hr9 => n_loopOf hA9 hr9 hI hj)
  · exact SOp.no wno_loopOf1 (by decide) (by decide) hJ (c_loopOf_x hC hx) (fun M9 z9 I9 A9 hA9 hr9 => n_loopOf_x1 hA9 hr9 hx)

theorem s_heightOf (hJ : JInv M a b o lo z f t n h sv len g) : SOp (fun _ => True) mL_heightOf mX8_heightOf [.int w0] M a b o lo z := by
  have hC := hJ.1
  have hG := hJ.2.2.2.1
  obtain ⟨⟨hI, hM, hK⟩, hGh, hGs, hl, hg⟩ := id hG
  have hn := hJ.n14
  have hIt : Rng (mx 947 f t) := mx_eq9.rng hI
  have hMt : MotOK (mx 947 f t) := mot_cong (fun k _ k2 => mx_eq9 k k2) hM
  rcases nI_cases w0 (N := 144) (by decide) with ⟨j, hj, rfl⟩ | hx
  · exact SOp.ok wok_heightOf hJ hG trivial (hC.rd (c_heightOf hC hI hj)) (fun M9 z9 I9 A9 hA9 hr9 => n_heightOf hA9 hr9 hj)
  · exact SOp.no wno_heightOf1 (by decide) (by decide) hJ (c_heightOf_x hC hx) (fun M9 z9 I9 A9 hA9 hr9 => n_heightOf_x1 hA9 hr9 hx)

theorem s_whyNoMending (hJ : JInv M a b o lo z f t n h sv len g) : SOp (fun _ => True) mL_whyNoMending mX8_whyNoMending [.int w0] M a b o lo z := by
  have hC := hJ.1
  have hG := hJ.2.2.2.1
  obtain ⟨⟨hI, hM, hK⟩, hGh, hGs, hl, hg⟩ := id hG
  have hn := hJ.n14
  have hIt : Rng (mx 947 f t) := mx_eq9.rng hI
  have hMt : MotOK (mx 947 f t) := mot_cong (fun k _ k2 => mx_eq9 k k2) hM
  rcases nI_cases w0 (N := 144) (by decide) with ⟨j, hj, rfl⟩ | hx
  · exact SOp.ok wok_whyNoMending hJ hG trivial (hC.rd (c_whyNoMending hC hI hj)) (fun M9 z9 I9 A9 hA9 hr9 => n_whyNoMending hA9 hr9 hI hj)
  · exact SOp.no wno_whyNoMending1 (by decide) (by decide) hJ (c_whyNoMending_x hC hx) (fun M9 z9 I9 A9 hA9 hr9 => n_whyNoMending_x1 hA9 hr9 hx)

theorem s_isSkipped (hJ : JInv M a b o lo z f t n h sv len g) : SOp (fun v => ∃ bq, v = bI bq) mL_isSkipped mX8_isSkipped [.int w0] M a b o lo z := by
  have hC := hJ.1
  have hG := hJ.2.2.2.1
  obtain ⟨⟨hI, hM, hK⟩, hGh, hGs, hl, hg⟩ := id hG
  have hn := hJ.n14
  have hIt : Rng (mx 947 f t) := mx_eq9.rng hI
  have hMt : MotOK (mx 947 f t) := mot_cong (fun k _ k2 => mx_eq9 k k2) hM
  rcases nI_cases w0 (N := 144) (by decide) with ⟨j, hj, rfl⟩ | hx
  · exact SOp.okB hJ ⟨_, rfl⟩ (hC.rd (c_isSkipped hC hI hj)) (fun M9 z9 I9 A9 hA9 hr9 => n_isSkipped hA9 hr9 hj)
  · exact SOp.no wno_isSkipped1 (by decide) (by decide) hJ (c_isSkipped_x hC hx) (fun M9 z9 I9 A9 hA9 hr9 => n_isSkipped_x1 hA9 hr9 hx)

theorem s_coneOf (hJ : JInv M a b o lo z f t n h sv len g) : SOp (fun _ => True) mL_coneOf mX8_coneOf [.int w0] M a b o lo z := by
  have hC := hJ.1
  have hG := hJ.2.2.2.1
  obtain ⟨⟨hI, hM, hK⟩, hGh, hGs, hl, hg⟩ := id hG
  have hn := hJ.n14
  have hIt : Rng (mx 947 f t) := mx_eq9.rng hI
  have hMt : MotOK (mx 947 f t) := mot_cong (fun k _ k2 => mx_eq9 k k2) hM
  rcases nI_cases w0 (N := 5) (by decide) with ⟨c, hc, rfl⟩ | hx
  · exact SOp.ok wok_coneOf hJ hG trivial (hC.rd (c_coneOf hC hI hc)) (fun M9 z9 I9 A9 hA9 hr9 => n_coneOf hA9 hr9 hc)
  · exact SOp.no wno_coneOf1 (by decide) (by decide) hJ (c_coneOf_x hC hx) (fun M9 z9 I9 A9 hA9 hr9 => n_coneOf_x1 hA9 hr9 hx)

theorem s_drawnByCone (hJ : JInv M a b o lo z f t n h sv len g) : SOp (fun _ => True) mL_drawnByCone mX8_drawnByCone [.int w0] M a b o lo z := by
  have hC := hJ.1
  have hG := hJ.2.2.2.1
  obtain ⟨⟨hI, hM, hK⟩, hGh, hGs, hl, hg⟩ := id hG
  have hn := hJ.n14
  have hIt : Rng (mx 947 f t) := mx_eq9.rng hI
  have hMt : MotOK (mx 947 f t) := mot_cong (fun k _ k2 => mx_eq9 k k2) hM
  rcases nI_cases w0 (N := 5) (by decide) with ⟨c, hc, rfl⟩ | hx
  · exact SOp.ok wok_drawnByCone hJ hG trivial (hC.rd (c_drawnByCone hC hI hc)) (fun M9 z9 I9 A9 hA9 hr9 => n_drawnByCone hA9 hr9 hc)
  · exact SOp.no wno_drawnByCone1 (by decide) (by decide) hJ (c_drawnByCone_x hC hx) (fun M9 z9 I9 A9 hA9 hr9 => n_drawnByCone_x1 hA9 hr9 hx)

theorem s_drawnByRug (hJ : JInv M a b o lo z f t n h sv len g) : SOp (fun _ => True) mL_drawnByRug mX8_drawnByRug [.int w0] M a b o lo z := by
  have hC := hJ.1
  have hG := hJ.2.2.2.1
  obtain ⟨⟨hI, hM, hK⟩, hGh, hGs, hl, hg⟩ := id hG
  have hn := hJ.n14
  have hIt : Rng (mx 947 f t) := mx_eq9.rng hI
  have hMt : MotOK (mx 947 f t) := mot_cong (fun k _ k2 => mx_eq9 k k2) hM
  rcases nI_cases w0 (N := 5) (by decide) with ⟨c, hc, rfl⟩ | hx
  · exact SOp.ok wok_drawnByRug hJ hG trivial (hC.rd (c_drawnByRug hC hI hc hK)) (fun M9 z9 I9 A9 hA9 hr9 => n_drawnByRug hA9 hr9 hc)
  · exact SOp.no wno_drawnByRug1 (by decide) (by decide) hJ (c_drawnByRug_x hC hx) (fun M9 z9 I9 A9 hA9 hr9 => n_drawnByRug_x1 hA9 hr9 hx)

theorem s_wasteOf (hJ : JInv M a b o lo z f t n h sv len g) : SOp (fun _ => True) mL_wasteOf mX8_wasteOf [.int w0] M a b o lo z := by
  have hC := hJ.1
  have hG := hJ.2.2.2.1
  obtain ⟨⟨hI, hM, hK⟩, hGh, hGs, hl, hg⟩ := id hG
  have hn := hJ.n14
  have hIt : Rng (mx 947 f t) := mx_eq9.rng hI
  have hMt : MotOK (mx 947 f t) := mot_cong (fun k _ k2 => mx_eq9 k k2) hM
  rcases nI_cases w0 (N := 5) (by decide) with ⟨c, hc, rfl⟩ | hx
  · exact SOp.ok wok_wasteOf hJ hG trivial (hC.rd (c_wasteOf hC hI hc)) (fun M9 z9 I9 A9 hA9 hr9 => n_wasteOf hA9 hr9 hc)
  · exact SOp.no wno_wasteOf1 (by decide) (by decide) hJ (c_wasteOf_x hC hx) (fun M9 z9 I9 A9 hA9 hr9 => n_wasteOf_x1 hA9 hr9 hx)

theorem s_neededFor (hJ : JInv M a b o lo z f t n h sv len g) : SOp (fun _ => True) mL_neededFor mX8_neededFor [.int w0] M a b o lo z := by
  have hC := hJ.1
  have hG := hJ.2.2.2.1
  obtain ⟨⟨hI, hM, hK⟩, hGh, hGs, hl, hg⟩ := id hG
  have hn := hJ.n14
  have hIt : Rng (mx 947 f t) := mx_eq9.rng hI
  have hMt : MotOK (mx 947 f t) := mot_cong (fun k _ k2 => mx_eq9 k k2) hM
  rcases nI_cases w0 (N := 5) (by decide) with ⟨c, hc, rfl⟩ | hx
  · exact SOp.ok wok_neededFor hJ hG trivial (hC.rd (c_neededFor hC hI hc)) (fun M9 z9 I9 A9 hA9 hr9 => n_neededFor hA9 hr9 hc)
  · exact SOp.no wno_neededFor1 (by decide) (by decide) hJ (c_neededFor_x hC hx) (fun M9 z9 I9 A9 hA9 hr9 => n_neededFor_x1 hA9 hr9 hx)

theorem s_untilKnot (hJ : JInv M a b o lo z f t n h sv len g) : SOp (fun _ => True) mL_untilKnot mX8_untilKnot [.int w0] M a b o lo z := by
  have hC := hJ.1
  have hG := hJ.2.2.2.1
  obtain ⟨⟨hI, hM, hK⟩, hGh, hGs, hl, hg⟩ := id hG
  have hn := hJ.n14
  have hIt : Rng (mx 947 f t) := mx_eq9.rng hI
  have hMt : MotOK (mx 947 f t) := mot_cong (fun k _ k2 => mx_eq9 k k2) hM
  rcases nI_cases w0 (N := 5) (by decide) with ⟨c, hc, rfl⟩ | hx
  · exact SOp.ok wok_untilKnot hJ hG trivial (hC.rd (c_untilKnot hC hI hc)) (fun M9 z9 I9 A9 hA9 hr9 => n_untilKnot hA9 hr9 hc)
  · exact SOp.no wno_untilKnot1 (by decide) (by decide) hJ (c_untilKnot_x hC hx) (fun M9 z9 I9 A9 hA9 hr9 => n_untilKnot_x1 hA9 hr9 hx)

theorem s_nearestByRings (hJ : JInv M a b o lo z f t n h sv len g) : SOp (fun _ => True) mL_nearestByRings mX8_nearestByRings [.int w0] M a b o lo z := by
  have hC := hJ.1
  have hG := hJ.2.2.2.1
  obtain ⟨⟨hI, hM, hK⟩, hGh, hGs, hl, hg⟩ := id hG
  have hn := hJ.n14
  have hIt : Rng (mx 947 f t) := mx_eq9.rng hI
  have hMt : MotOK (mx 947 f t) := mot_cong (fun k _ k2 => mx_eq9 k k2) hM
  rcases nI_cases w0 (N := 5) (by decide) with ⟨c, hc, rfl⟩ | hx
  · exact SOp.ok wok_nearestByRings hJ hG trivial (hC.rd (c_nearestByRings hC hI hc)) (fun M9 z9 I9 A9 hA9 hr9 => n_nearestByRings hA9 hr9 hI hc)
  · exact SOp.no wno_nearestByRings1 (by decide) (by decide) hJ (c_nearestByRings_x hC hx) (fun M9 z9 I9 A9 hA9 hr9 => n_nearestByRings_x1 hA9 hr9 hx)

theorem s_nearestByCells (hJ : JInv M a b o lo z f t n h sv len g) : SOp (fun _ => True) mL_nearestByCells mX8_nearestByCells [.int w0] M a b o lo z := by
  have hC := hJ.1
  have hG := hJ.2.2.2.1
  obtain ⟨⟨hI, hM, hK⟩, hGh, hGs, hl, hg⟩ := id hG
  have hn := hJ.n14
  have hIt : Rng (mx 947 f t) := mx_eq9.rng hI
  have hMt : MotOK (mx 947 f t) := mot_cong (fun k _ k2 => mx_eq9 k k2) hM
  rcases nI_cases w0 (N := 5) (by decide) with ⟨c, hc, rfl⟩ | hx
  · exact SOp.ok wok_nearestByCells hJ hG trivial (hC.rd (c_nearestByCells hC hI hc)) (fun M9 z9 I9 A9 hA9 hr9 => n_nearestByCells hA9 hr9 hI hc)
  · exact SOp.no wno_nearestByCells1 (by decide) (by decide) hJ (c_nearestByCells_x hC hx) (fun M9 z9 I9 A9 hA9 hr9 => n_nearestByCells_x1 hA9 hr9 hx)

theorem s_areasBySpreading (hJ : JInv M a b o lo z f t n h sv len g) : SOp (fun _ => True) mL_areasBySpreading mX8_areasBySpreading [.int w0] M a b o lo z := by
  have hC := hJ.1
  have hG := hJ.2.2.2.1
  obtain ⟨⟨hI, hM, hK⟩, hGh, hGs, hl, hg⟩ := id hG
  have hn := hJ.n14
  have hIt : Rng (mx 947 f t) := mx_eq9.rng hI
  have hMt : MotOK (mx 947 f t) := mot_cong (fun k _ k2 => mx_eq9 k k2) hM
  rcases nI_cases w0 (N := 5) (by decide) with ⟨c, hc, rfl⟩ | hx
  · exact SOp.ok wok_areasBySpreading hJ hG trivial (c_areasBySpreading hC hI hc) (fun M9 z9 I9 A9 hA9 hr9 => n_areasBySpreading hA9 hr9 hc)
  · exact SOp.no wno_areasBySpreading1 (by decide) (by decide) hJ (c_areasBySpreading_x hC hx) (fun M9 z9 I9 A9 hA9 hr9 => n_areasBySpreading_x1 hA9 hr9 hx)

theorem s_areasByJoining (hJ : JInv M a b o lo z f t n h sv len g) : SOp (fun _ => True) mL_areasByJoining mX8_areasByJoining [.int w0] M a b o lo z := by
  have hC := hJ.1
  have hG := hJ.2.2.2.1
  obtain ⟨⟨hI, hM, hK⟩, hGh, hGs, hl, hg⟩ := id hG
  have hn := hJ.n14
  have hIt : Rng (mx 947 f t) := mx_eq9.rng hI
  have hMt : MotOK (mx 947 f t) := mot_cong (fun k _ k2 => mx_eq9 k k2) hM
  rcases nI_cases w0 (N := 5) (by decide) with ⟨c, hc, rfl⟩ | hx
  · exact SOp.ok wok_areasByJoining hJ hG trivial (c_areasByJoining hC hI hc) (fun M9 z9 I9 A9 hA9 hr9 => n_areasByJoining hA9 hr9 hc)
  · exact SOp.no wno_areasByJoining1 (by decide) (by decide) hJ (c_areasByJoining_x hC hx) (fun M9 z9 I9 A9 hA9 hr9 => n_areasByJoining_x1 hA9 hr9 hx)

theorem s_append (hJ : JInv M a b o lo z f t n h sv len g) : SOp (fun _ => True) mL_append mX8_append [.int w0] M a b o lo z := by
  have hC := hJ.1
  have hG := hJ.2.2.2.1
  obtain ⟨⟨hI, hM, hK⟩, hGh, hGs, hl, hg⟩ := id hG
  have hn := hJ.n14
  have hIt : Rng (mx 947 f t) := mx_eq9.rng hI
  have hMt : MotOK (mx 947 f t) := mot_cong (fun k _ k2 => mx_eq9 k k2) hM
  rcases rng_cases w0 0 255 (by decide) (by decide) with ⟨m, h1, h2, rfl⟩ | hx
  · by_cases hl0 : len < 120
    · exact SOp.ok wok_append hJ ⟨hG.1, hGh, hGs, by omega, fun k => by show (if k = len then m else g k) < 256; split <;> first | omega | exact hg k⟩ trivial (c_append hC (by omega) hl0) (fun M9 z9 I9 A9 hA9 hr9 => n_append hA9 hr9 (by omega) hl0)
    · exact SOp.no wno_append2 (by decide) (by decide) hJ (c_append_x2 hC hI (by omega) (by omega)) (fun M9 z9 I9 A9 hA9 hr9 => n_append_x2 hA9 hr9 (by omega) (by omega))
  · exact SOp.no wno_append1 (by decide) (by decide) hJ (c_append_x1 hC hI hx) (fun M9 z9 I9 A9 hA9 hr9 => n_append_x1 hA9 hr9 hx)

theorem s_motifLength (hJ : JInv M a b o lo z f t n h sv len g) : SOp (fun _ => True) mL_motifLength mX8_motifLength [.int w0] M a b o lo z := by
  have hC := hJ.1
  have hG := hJ.2.2.2.1
  obtain ⟨⟨hI, hM, hK⟩, hGh, hGs, hl, hg⟩ := id hG
  have hn := hJ.n14
  have hIt : Rng (mx 947 f t) := mx_eq9.rng hI
  have hMt : MotOK (mx 947 f t) := mot_cong (fun k _ k2 => mx_eq9 k k2) hM
  rcases nI_cases w0 (N := 4) (by decide) with ⟨s, hs, rfl⟩ | hx
  · by_cases h0 : mLn f s = 0
    · exact SOp.ok wok_motifLength hJ hG trivial (hC.rd (c_motifLength0 hC hs (hM s hs).1 h0)) (fun M9 z9 I9 A9 hA9 hr9 => n_motifLength hA9 hr9 hs)
    · exact SOp.ok wok_motifLength hJ hG trivial (hC.rd (c_motifLength1 hC hs (hM s hs).1 (by omega))) (fun M9 z9 I9 A9 hA9 hr9 => n_motifLength hA9 hr9 hs)
  · exact SOp.no wno_motifLength1 (by decide) (by decide) hJ (c_motifLength_x hC hx) (fun M9 z9 I9 A9 hA9 hr9 => n_motifLength_x1 hA9 hr9 hx)

theorem s_motifSign (hJ : JInv M a b o lo z f t n h sv len g) : SOp (fun _ => True) mL_motifSign mX8_motifSign [.int w0, .int w1] M a b o lo z := by
  have hC := hJ.1
  have hG := hJ.2.2.2.1
  obtain ⟨⟨hI, hM, hK⟩, hGh, hGs, hl, hg⟩ := id hG
  have hn := hJ.n14
  have hIt : Rng (mx 947 f t) := mx_eq9.rng hI
  have hMt : MotOK (mx 947 f t) := mot_cong (fun k _ k2 => mx_eq9 k k2) hM
  rcases nI_cases w0 (N := 4) (by decide) with ⟨s, hs, rfl⟩ | hx
  · by_cases h0 : mLn f s = 0
    · exact SOp.no wno_motifSign1 (by decide) (by decide) hJ (c_motifSign_x0 hC hs (hM s hs).1 h0) (fun M9 z9 I9 A9 hA9 hr9 => n_motifSign_x3 hA9 hr9 hs (hM s hs).1 h0)
    · have hml := mLn_le hM hs
      rcases nI_cases w1 (N := mLn f s) (by omega) with ⟨i, hi, rfl⟩ | hy
      · exact SOp.ok wok_motifSign hJ hG trivial (hC.rd (c_motifSign hC hs (hM s hs).1 hi)) (fun M9 z9 I9 A9 hA9 hr9 => n_motifSign hA9 hr9 hs (hM s hs).1 hi)
      · exact SOp.no wno_motifSign1 (by decide) (by decide) hJ (c_motifSign_x1 hC hs (hM s hs).1 (by omega) hy) (fun M9 z9 I9 A9 hA9 hr9 => n_motifSign_x2 hA9 hr9 hs (hM s hs).1 (by omega) hy)
  · exact SOp.no wno_motifSign1 (by decide) (by decide) hJ (c_motifSign_x hC hx) (fun M9 z9 I9 A9 hA9 hr9 => n_motifSign_x1 hA9 hr9 hx)

theorem s_setPlan (hJ : JInv M a b o lo z f t n h sv len g) : SOp (fun _ => True) mL_setPlan mX8_setPlan [.int w0, .int w1] M a b o lo z := by
  have hC := hJ.1
  have hG := hJ.2.2.2.1
  obtain ⟨⟨hI, hM, hK⟩, hGh, hGs, hl, hg⟩ := id hG
  have hn := hJ.n14
  have hIt : Rng (mx 947 f t) := mx_eq9.rng hI
  have hMt : MotOK (mx 947 f t) := mot_cong (fun k _ k2 => mx_eq9 k k2) hM
  rcases nI_cases w0 (N := 144) (by decide) with ⟨j, hj, rfl⟩ | hx
  · rcases col_cases w1 with ⟨m, hm, em, hx1, hx2⟩ | hy
    · exact SOp.ok wok_setPlan hJ (hG.rem hn (hG.1.keeps (by rw [em]; exact plan_ok hj hm hI))) trivial (c_setPlan hC hI hj hx1 hx2) (fun M9 z9 I9 A9 hA9 hr9 => n_setPlan hA9 hr9 hj hx1 hx2)
    · exact SOp.no wno_setPlan2 (by decide) (by decide) hJ (c_setPlan_x2 hC hI hj hy) (fun M9 z9 I9 A9 hA9 hr9 => n_setPlan_x2 hA9 hr9 hj hy)
  · exact SOp.no wno_setPlan1 (by decide) (by decide) hJ (c_setPlan_x1 hC hI hx) (fun M9 z9 I9 A9 hA9 hr9 => n_setPlan_x1 hA9 hr9 hx)

theorem s_fillPlan (hJ : JInv M a b o lo z f t n h sv len g) : SOp (fun _ => True) mL_fillPlan mX8_fillPlan [.int w0, .int w1, .int w2] M a b o lo z := by
  have hC := hJ.1
  have hG := hJ.2.2.2.1
  obtain ⟨⟨hI, hM, hK⟩, hGh, hGs, hl, hg⟩ := id hG
  have hn := hJ.n14
  have hIt : Rng (mx 947 f t) := mx_eq9.rng hI
  have hMt : MotOK (mx 947 f t) := mot_cong (fun k _ k2 => mx_eq9 k k2) hM
  rcases nI_cases w0 (N := 144) (by decide) with ⟨i, hi, rfl⟩ | hx
  · rcases nI_cases w1 (N := 144) (by decide) with ⟨j, hj, rfl⟩ | hx
    · rcases col_cases w2 with ⟨m, hm, em, hx1, hx2⟩ | hy
      · exact SOp.ok wok_fillPlan hJ (hG.rem hn (hG.1.keeps (by rw [em]; exact fill_keep hm 144 (Nat.le_refl _) hI))) trivial (c_fillPlan hC hI hi hj hx1 hx2) (fun M9 z9 I9 A9 hA9 hr9 => n_fillPlan hA9 hr9 hi hj hx1 hx2)
      · exact SOp.no wno_fillPlan2 (by decide) (by decide) hJ (c_fillPlan_x3 hC hI hi hj hy) (fun M9 z9 I9 A9 hA9 hr9 => n_fillPlan_x3 hA9 hr9 hi hj hy)
    · exact SOp.no wno_fillPlan1 (by decide) (by decide) hJ (c_fillPlan_x2 hC hI hi hx) (fun M9 z9 I9 A9 hA9 hr9 => n_fillPlan_x2 hA9 hr9 hi hx)
  · exact SOp.no wno_fillPlan1 (by decide) (by decide) hJ (c_fillPlan_x1 hC hI hx) (fun M9 z9 I9 A9 hA9 hr9 => n_fillPlan_x1 hA9 hr9 hx)

theorem s_thread (hJ : JInv M a b o lo z f t n h sv len g) : SOp (fun _ => True) mL_thread mX8_thread [.int w0] M a b o lo z := by
  have hC := hJ.1
  have hG := hJ.2.2.2.1
  obtain ⟨⟨hI, hM, hK⟩, hGh, hGs, hl, hg⟩ := id hG
  have hn := hJ.n14
  have hIt : Rng (mx 947 f t) := mx_eq9.rng hI
  have hMt : MotOK (mx 947 f t) := mot_cong (fun k _ k2 => mx_eq9 k k2) hM
  rcases nI_cases w0 (N := 5) (by decide) with ⟨c, hc, rfl⟩ | hx
  · by_cases h20 : nI 20 ≤ f (432 + 5 * c)
    · exact SOp.ok wok_thread hJ (hG.rem hn (hG.1.keeps (thread_ok hc hI))) trivial (c_thread hC hI hc h20) (fun M9 z9 I9 A9 hA9 hr9 => n_thread hA9 hr9 hI hc h20)
    · exact SOp.no wno_thread2 (by decide) (by decide) hJ (c_thread_x2 hC hI hc h20) (fun M9 z9 I9 A9 hA9 hr9 => n_thread_x2 hA9 hr9 hc h20)
  · exact SOp.no wno_thread1 (by decide) (by decide) hJ (c_thread_x hC hx) (fun M9 z9 I9 A9 hA9 hr9 => n_thread_x1 hA9 hr9 hx)

theorem s_cut (hJ : JInv M a b o lo z f t n h sv len g) : SOp (fun _ => True) mL_cut mX8_cut [] M a b o lo z := by
  have hC := hJ.1
  have hG := hJ.2.2.2.1
  obtain ⟨⟨hI, hM, hK⟩, hGh, hGs, hl, hg⟩ := id hG
  have hn := hJ.n14
  have hIt : Rng (mx 947 f t) := mx_eq9.rng hI
  have hMt : MotOK (mx 947 f t) := mot_cong (fun k _ k2 => mx_eq9 k k2) hM
  by_cases ht : 0 < tno f
  · exact SOp.ok wok_cut hJ (hG.rem hn (hG.1.keeps (cut_ok ht hI))) trivial (c_cut hC hI ht) (fun M9 z9 I9 A9 hA9 hr9 => n_cut hA9 hr9 hI ht)
  · exact SOp.no wno_cut1 (by decide) (by decide) hJ (c_cut_x1 hC hI (by omega)) (fun M9 z9 I9 A9 hA9 hr9 => n_cut_x1 hA9 hr9 hI (by omega))

theorem s_ease (hJ : JInv M a b o lo z f t n h sv len g) : SOp (fun _ => True) mL_ease mX8_ease [] M a b o lo z := by
  have hC := hJ.1
  have hG := hJ.2.2.2.1
  obtain ⟨⟨hI, hM, hK⟩, hGh, hGs, hl, hg⟩ := id hG
  have hn := hJ.n14
  have hIt : Rng (mx 947 f t) := mx_eq9.rng hI
  have hMt : MotOK (mx 947 f t) := mot_cong (fun k _ k2 => mx_eq9 k k2) hM
  by_cases ht : 0 < tno f
  · exact SOp.ok wok_ease hJ (hG.rem hn (hG.1.keeps (ease_ok ht hI))) trivial (c_ease hC hI ht) (fun M9 z9 I9 A9 hA9 hr9 => n_ease hA9 hr9 hI ht)
  · exact SOp.no wno_ease1 (by decide) (by decide) hJ (c_ease_x1 hC hI (by omega)) (fun M9 z9 I9 A9 hA9 hr9 => n_ease_x1 hA9 hr9 hI (by omega))

theorem s_sew (hJ : JInv M a b o lo z f t n h sv len g) : SOp (fun _ => True) mL_sew mX8_sew [.int w0] M a b o lo z := by
  have hC := hJ.1
  have hG := hJ.2.2.2.1
  obtain ⟨⟨hI, hM, hK⟩, hGh, hGs, hl, hg⟩ := id hG
  have hn := hJ.n14
  have hIt : Rng (mx 947 f t) := mx_eq9.rng hI
  have hMt : MotOK (mx 947 f t) := mot_cong (fun k _ k2 => mx_eq9 k k2) hM
  rcases rng_cases w0 1 12 (by decide) (by decide) with ⟨m, h1, h2, rfl⟩ | hx
  · by_cases h0 : f_noStitch f = 0
    · exact SOp.ok wok_sew hJ (hG.rem hn (hG.1.keeps (sew_ok m hI))) trivial (c_sew hC hI h1 h2 h0) (fun M9 z9 I9 A9 hA9 hr9 => n_sew hA9 hr9 hI h1 h2 h0)
    · exact SOp.no wno_sew2 (by decide) (by decide) hJ (c_sew_x2 hC hI h1 h2 h0) (fun M9 z9 I9 A9 hA9 hr9 => n_sew_x2 hA9 hr9 hI h1 h2 h0)
  · exact SOp.no wno_sew1 (by decide) (by decide) hJ (c_sew_x1 hC hI hx) (fun M9 z9 I9 A9 hA9 hr9 => n_sew_x1 hA9 hr9 hx)

theorem s_jump (hJ : JInv M a b o lo z f t n h sv len g) : SOp (fun _ => True) mL_jump mX8_jump [.int w0] M a b o lo z := by
  have hC := hJ.1
  have hG := hJ.2.2.2.1
  obtain ⟨⟨hI, hM, hK⟩, hGh, hGs, hl, hg⟩ := id hG
  have hn := hJ.n14
  have hIt : Rng (mx 947 f t) := mx_eq9.rng hI
  have hMt : MotOK (mx 947 f t) := mot_cong (fun k _ k2 => mx_eq9 k k2) hM
  rcases rng_cases w0 1 12 (by decide) (by decide) with ⟨m, h1, h2, rfl⟩ | hx
  · exact SOp.ok wok_jump hJ (hG.rem hn (hG.1.keeps (jump_ok m hI))) trivial (c_jump hC hI h1 h2) (fun M9 z9 I9 A9 hA9 hr9 => n_jump hA9 hr9 hI h1 h2)
  · exact SOp.no wno_jump1 (by decide) (by decide) hJ (c_jump_x1 hC hI hx) (fun M9 z9 I9 A9 hA9 hr9 => n_jump_x1 hA9 hr9 hx)

theorem s_shear (hJ : JInv M a b o lo z f t n h sv len g) : SOp (fun _ => True) mL_shear mX8_shear [.int w0] M a b o lo z := by
  have hC := hJ.1
  have hG := hJ.2.2.2.1
  obtain ⟨⟨hI, hM, hK⟩, hGh, hGs, hl, hg⟩ := id hG
  have hn := hJ.n14
  have hIt : Rng (mx 947 f t) := mx_eq9.rng hI
  have hMt : MotOK (mx 947 f t) := mot_cong (fun k _ k2 => mx_eq9 k k2) hM
  rcases rng_cases w0 1 9 (by decide) (by decide) with ⟨m, h1, h2, rfl⟩ | hx
  · exact SOp.ok wok_shear hJ (hG.rem hn (hG.1.keeps (shear_ok h1 h2 hI))) trivial (c_shear hC hI h1 h2) (fun M9 z9 I9 A9 hA9 hr9 => n_shear hA9 hr9 hI h1 h2)
  · exact SOp.no wno_shear1 (by decide) (by decide) hJ (c_shear_x1 hC hI hx) (fun M9 z9 I9 A9 hA9 hr9 => n_shear_x1 hA9 hr9 hx)

theorem s_setHeight (hJ : JInv M a b o lo z f t n h sv len g) : SOp (fun _ => True) mL_setHeight mX8_setHeight [.int w0] M a b o lo z := by
  have hC := hJ.1
  have hG := hJ.2.2.2.1
  obtain ⟨⟨hI, hM, hK⟩, hGh, hGs, hl, hg⟩ := id hG
  have hn := hJ.n14
  have hIt : Rng (mx 947 f t) := mx_eq9.rng hI
  have hMt : MotOK (mx 947 f t) := mot_cong (fun k _ k2 => mx_eq9 k k2) hM
  rcases rng_cases w0 1 9 (by decide) (by decide) with ⟨m, h1, h2, rfl⟩ | hx
  · exact SOp.ok wok_setHeight hJ (hG.rem hn (hG.1.keeps (high_ok h1 h2 hI))) trivial (c_setHeight hC hI h1 h2) (fun M9 z9 I9 A9 hA9 hr9 => n_setHeight hA9 hr9 h1 h2)
  · exact SOp.no wno_setHeight1 (by decide) (by decide) hJ (c_setHeight_x1 hC hI hx) (fun M9 z9 I9 A9 hA9 hr9 => n_setHeight_x1 hA9 hr9 hx)

theorem s_place (hJ : JInv M a b o lo z f t n h sv len g) : SOp (fun _ => True) mL_place mX8_place [.int w0, .int w1] M a b o lo z := by
  have hC := hJ.1
  have hG := hJ.2.2.2.1
  obtain ⟨⟨hI, hM, hK⟩, hGh, hGs, hl, hg⟩ := id hG
  have hn := hJ.n14
  have hIt : Rng (mx 947 f t) := mx_eq9.rng hI
  have hMt : MotOK (mx 947 f t) := mot_cong (fun k _ k2 => mx_eq9 k k2) hM
  rcases nI_cases w0 (N := 144) (by decide) with ⟨j, hj, rfl⟩ | hx
  · rcases rng_cases w1 0 3 (by decide) (by decide) with ⟨hd, _, hh, rfl⟩ | hx
    · by_cases ht : 0 < tno f
      · exact SOp.no wno_place3 (by decide) (by decide) hJ (c_place_x3 hC hI hj (by omega) ht) (fun M9 z9 I9 A9 hA9 hr9 => n_place_x3 hA9 hr9 hI hj (by omega) ht)
      · exact SOp.ok wok_place hJ (hG.rem hn (hG.1.keeps (place_ok hj (by omega) hI))) trivial (c_place hC hI hj (by omega) (by omega)) (fun M9 z9 I9 A9 hA9 hr9 => n_place hA9 hr9 hI hj (by omega) (by omega))
    · exact SOp.no wno_place2 (by decide) (by decide) hJ (c_place_x2 hC hI hj hx) (fun M9 z9 I9 A9 hA9 hr9 => n_place_x2 hA9 hr9 hj hx)
  · exact SOp.no wno_place1 (by decide) (by decide) hJ (c_place_x1 hC hI hx) (fun M9 z9 I9 A9 hA9 hr9 => n_place_x1 hA9 hr9 hx)

theorem s_wind (hJ : JInv M a b o lo z f t n h sv len g) : SOp (fun _ => True) mL_wind mX8_wind [.int w0, .int w1] M a b o lo z := by
  have hC := hJ.1
  have hG := hJ.2.2.2.1
  obtain ⟨⟨hI, hM, hK⟩, hGh, hGs, hl, hg⟩ := id hG
  have hn := hJ.n14
  have hIt : Rng (mx 947 f t) := mx_eq9.rng hI
  have hMt : MotOK (mx 947 f t) := mot_cong (fun k _ k2 => mx_eq9 k k2) hM
  rcases nI_cases w0 (N := 5) (by decide) with ⟨c, hc, rfl⟩ | hx
  · rcases rng_cases w1 1 9999 (by decide) (by decide) with ⟨m, h1, h2, rfl⟩ | hx
    · by_cases hw : f (432 + 5 * c) + nI m ≤ nI 20000
      · exact SOp.ok wok_wind hJ (hG.rem hn (hG.1.keeps (wind_ok hc h1 h2 hw hI))) trivial (c_wind hC hI hc h1 h2 hw) (fun M9 z9 I9 A9 hA9 hr9 => n_wind hA9 hr9 hc h1 h2 hw)
      · exact SOp.no wno_wind3 (by decide) (by decide) hJ (c_wind_x3 hC hI hc h1 h2 hw) (fun M9 z9 I9 A9 hA9 hr9 => n_wind_x3 hA9 hr9 hc h1 h2 hw)
    · exact SOp.no wno_wind2 (by decide) (by decide) hJ (c_wind_x2 hC hI hc hx) (fun M9 z9 I9 A9 hA9 hr9 => n_wind_x2 hA9 hr9 hc hx)
  · exact SOp.no wno_wind1 (by decide) (by decide) hJ (c_wind_x1 hC hI hx) (fun M9 z9 I9 A9 hA9 hr9 => n_wind_x1 hA9 hr9 hx)

theorem s_mend (hJ : JInv M a b o lo z f t n h sv len g) : SOp (fun _ => True) mL_mend mX8_mend [.int w0] M a b o lo z := by
  have hC := hJ.1
  have hG := hJ.2.2.2.1
  obtain ⟨⟨hI, hM, hK⟩, hGh, hGs, hl, hg⟩ := id hG
  have hn := hJ.n14
  have hIt : Rng (mx 947 f t) := mx_eq9.rng hI
  have hMt : MotOK (mx 947 f t) := mot_cong (fun k _ k2 => mx_eq9 k k2) hM
  rcases nI_cases w0 (N := 144) (by decide) with ⟨j, hj, rfl⟩ | hx
  · by_cases h0 : f_noMend f j = 0
    · exact SOp.ok wok_mend hJ (hG.rem hn (hG.1.keeps (mend_ok hj h0 hI))) trivial (c_mend hC hI hj h0) (fun M9 z9 I9 A9 hA9 hr9 => n_mend hA9 hr9 hI hj h0)
    · exact SOp.no wno_mend2 (by decide) (by decide) hJ (c_mend_x2 hC hI hj h0) (fun M9 z9 I9 A9 hA9 hr9 => n_mend_x2 hA9 hr9 hI hj h0)
  · exact SOp.no wno_mend1 (by decide) (by decide) hJ (c_mend_x1 hC hI hx) (fun M9 z9 I9 A9 hA9 hr9 => n_mend_x1 hA9 hr9 hx)

theorem s_unpick (hJ : JInv M a b o lo z f t n h sv len g) : SOp (fun _ => True) mL_unpick mX8_unpick [.int w0] M a b o lo z := by
  have hC := hJ.1
  have hG := hJ.2.2.2.1
  obtain ⟨⟨hI, hM, hK⟩, hGh, hGs, hl, hg⟩ := id hG
  have hn := hJ.n14
  have hIt : Rng (mx 947 f t) := mx_eq9.rng hI
  have hMt : MotOK (mx 947 f t) := mot_cong (fun k _ k2 => mx_eq9 k k2) hM
  rcases nI_cases w0 (N := 144) (by decide) with ⟨j, hj, rfl⟩ | hx
  · cases hl0 : hasL (f (144 + j)) with
    | true => exact SOp.ok wok_unpick hJ (hG.rem hn (hG.1.keeps (unpick_ok hj hl0 hI))) trivial (c_unpick hC hI hj hl0) (fun M9 z9 I9 A9 hA9 hr9 => n_unpick hA9 hr9 hI hj hl0)
    | false => exact SOp.no wno_unpick2 (by decide) (by decide) hJ (c_unpick_x2 hC hI hj hl0) (fun M9 z9 I9 A9 hA9 hr9 => n_unpick_x2 hA9 hr9 hj hl0)
  · exact SOp.no wno_unpick1 (by decide) (by decide) hJ (c_unpick_x1 hC hI hx) (fun M9 z9 I9 A9 hA9 hr9 => n_unpick_x1 hA9 hr9 hx)

theorem s_store (hJ : JInv M a b o lo z f t n h sv len g) : SOp (fun _ => True) mL_store mX8_store [.int w0] M a b o lo z := by
  have hC := hJ.1
  have hG := hJ.2.2.2.1
  obtain ⟨⟨hI, hM, hK⟩, hGh, hGs, hl, hg⟩ := id hG
  have hn := hJ.n14
  have hIt : Rng (mx 947 f t) := mx_eq9.rng hI
  have hMt : MotOK (mx 947 f t) := mot_cong (fun k _ k2 => mx_eq9 k k2) hM
  rcases nI_cases w0 (N := 4) (by decide) with ⟨s, hs, rfl⟩ | hx
  · by_cases ht : TxOK g len
    · cases hm : hasM g len s len 0 with
      | true => exact SOp.no wno_store2 (by decide) (by decide) hJ (c_store_x3 hC hI hs hg hl ht hm) (fun M9 z9 I9 A9 hA9 hr9 => n_store_x3 hA9 hr9 hs ht hm)
      | false => exact SOp.ok wok_store hJ (hG.rem hn (store_good hG.1 hs hg hl ht hm)) trivial (c_store hC hI hs hg hl ht hm) (fun M9 z9 I9 A9 hA9 hr9 => n_store hA9 hr9 hs ht hm)
    · exact SOp.no wno_store2 (by decide) (by decide) hJ (c_store_x2 hC hI hs hg hl ht) (fun M9 z9 I9 A9 hA9 hr9 => n_store_x2 hA9 hr9 hs ht)
  · exact SOp.no wno_store1 (by decide) (by decide) hJ (c_store_x hC hx) (fun M9 z9 I9 A9 hA9 hr9 => n_store_x1 hA9 hr9 hx)

theorem s_run (hJ : JInv M a b o lo z f t n h sv len g) : SOp (fun _ => True) mL_run mX8_run [.int w0] M a b o lo z := by
  have hC := hJ.1
  have hG := hJ.2.2.2.1
  obtain ⟨⟨hI, hM, hK⟩, hGh, hGs, hl, hg⟩ := id hG
  have hn := hJ.n14
  have hIt : Rng (mx 947 f t) := mx_eq9.rng hI
  have hMt : MotOK (mx 947 f t) := mot_cong (fun k _ k2 => mx_eq9 k k2) hM
  rcases nI_cases w0 (N := 4) (by decide) with ⟨s, hs, rfl⟩ | hx
  · by_cases h0 : mLn f s = 0
    · exact SOp.no wno_run2 (by decide) (by decide) hJ (c_run_x2 hC hI hs hM h0) (fun M9 z9 I9 A9 hA9 hr9 => n_run_x2 hA9 hr9 hs hM h0)
    · exact SOp.ok wok_run hJ (hG.rem hn (hG.1.keeps (run_ok (hM.txts hg (by omega) (Or.inl rfl)) (by omega) hI))) trivial (c_run hC hI hs hg hM (by omega)) (fun M9 z9 I9 A9 hA9 hr9 => n_run hA9 hr9 hI hs hg hM (by omega))
  · exact SOp.no wno_run1 (by decide) (by decide) hJ (c_run_x hC hx) (fun M9 z9 I9 A9 hA9 hr9 => n_run_x1 hA9 hr9 hx)

theorem s_runText (hJ : JInv M a b o lo z f t n h sv len g) : SOp (fun _ => True) mL_runText mX8_runText [] M a b o lo z := by
  have hC := hJ.1
  have hG := hJ.2.2.2.1
  obtain ⟨⟨hI, hM, hK⟩, hGh, hGs, hl, hg⟩ := id hG
  have hn := hJ.n14
  have hIt : Rng (mx 947 f t) := mx_eq9.rng hI
  have hMt : MotOK (mx 947 f t) := mot_cong (fun k _ k2 => mx_eq9 k k2) hM
  by_cases ht : TxOK g len
  · exact SOp.ok wok_runText hJ (hG.rem hn (hG.1.keeps (run_ok (hM.txts hg hl (Or.inr ht)) (by omega) hI))) trivial (c_runText hC hI hg hl hM ht) (fun M9 z9 I9 A9 hA9 hr9 => n_runText hA9 hr9 hI hg hM ht)
  · exact SOp.no wno_runText1 (by decide) (by decide) hJ (c_runText_x1 hC hI hg hl ht) (fun M9 z9 I9 A9 hA9 hr9 => n_runText_x1 hA9 hr9 ht)

theorem s_undo (hJ : JInv M a b o lo z f t n h sv len g) : SOp (fun _ => True) mL_undo mX8_undo [] M a b o lo z := by
  have hC := hJ.1
  have hG := hJ.2.2.2.1
  obtain ⟨⟨hI, hM, hK⟩, hGh, hGs, hl, hg⟩ := id hG
  have hn := hJ.n14
  have hIt : Rng (mx 947 f t) := mx_eq9.rng hI
  have hMt : MotOK (mx 947 f t) := mot_cong (fun k _ k2 => mx_eq9 k k2) hM
  cases n with
  | zero => exact SOp.no wno_undo1 (by decide) (by decide) hJ (c_undo_x1 hC) (fun M9 z9 I9 A9 hA9 hr9 => n_undo_x1 hA9 hr9 rfl)
  | succ n => exact SOp.ok wok_undo hJ ⟨(hGh n (by omega)).cong mx_eq9, fun k hk => hGh k (by omega), hGs, hl, hg⟩ trivial (c_undo hC) (fun M9 z9 I9 A9 hA9 hr9 => n_undo hA9 hr9)

theorem s_loopsBy (hJ : JInv M a b o lo z f t n h sv len g) : SOp (fun _ => True) mL_loopsBy mX8_loopsBy [] M a b o lo z := by
  have hC := hJ.1
  have hG := hJ.2.2.2.1
  obtain ⟨⟨hI, hM, hK⟩, hGh, hGs, hl, hg⟩ := id hG
  have hn := hJ.n14
  have hIt : Rng (mx 947 f t) := mx_eq9.rng hI
  have hMt : MotOK (mx 947 f t) := mot_cong (fun k _ k2 => mx_eq9 k k2) hM
  by_cases ht : TxOK g len
  · exact SOp.ok wok_loopsBy hJ hG trivial (c_loopsBy hC hI _ mx_eq9 hIt hg hl hMt ht (run_ok (hMt.txts hg hl (Or.inr ht)) (by omega) hIt).1) (fun M9 z9 I9 A9 hA9 hr9 => n_loopsBy hA9 hr9 hIt hMt hg ht)
  · exact SOp.no wno_loopsBy1 (by decide) (by decide) hJ (c_loopsBy_x1 hC hI hg hl ht) (fun M9 z9 I9 A9 hA9 hr9 => n_loopsBy_x1 hA9 hr9 ht)

theorem s_needleBy (hJ : JInv M a b o lo z f t n h sv len g) : SOp (fun _ => True) mL_needleBy mX8_needleBy [] M a b o lo z := by
  have hC := hJ.1
  have hG := hJ.2.2.2.1
  obtain ⟨⟨hI, hM, hK⟩, hGh, hGs, hl, hg⟩ := id hG
  have hn := hJ.n14
  have hIt : Rng (mx 947 f t) := mx_eq9.rng hI
  have hMt : MotOK (mx 947 f t) := mot_cong (fun k _ k2 => mx_eq9 k k2) hM
  by_cases ht : TxOK g len
  · exact SOp.ok wok_needleBy hJ hG trivial (c_needleBy hC _ mx_eq9 hIt hg hl hMt ht) (fun M9 z9 I9 A9 hA9 hr9 => n_needleBy hA9 hr9 hIt hMt hg ht)
  · exact SOp.no wno_needleBy1 (by decide) (by decide) hJ (c_needleBy_x1 hC hI hg hl ht) (fun M9 z9 I9 A9 hA9 hr9 => n_needleBy_x1 hA9 hr9 ht)

theorem s_yarnBy (hJ : JInv M a b o lo z f t n h sv len g) : SOp (fun _ => True) mL_yarnBy mX8_yarnBy [.int w0] M a b o lo z := by
  have hC := hJ.1
  have hG := hJ.2.2.2.1
  obtain ⟨⟨hI, hM, hK⟩, hGh, hGs, hl, hg⟩ := id hG
  have hn := hJ.n14
  have hIt : Rng (mx 947 f t) := mx_eq9.rng hI
  have hMt : MotOK (mx 947 f t) := mot_cong (fun k _ k2 => mx_eq9 k k2) hM
  rcases nI_cases w0 (N := 5) (by decide) with ⟨c, hc, rfl⟩ | hx
  · by_cases ht : TxOK g len
    · exact SOp.ok wok_yarnBy hJ hG trivial (c_yarnBy hC _ mx_eq9 hIt hg hl hMt ht hc) (fun M9 z9 I9 A9 hA9 hr9 => n_yarnBy hA9 hr9 hc hIt hMt hg ht)
    · exact SOp.no wno_yarnBy2 (by decide) (by decide) hJ (c_yarnBy_x2 hC hI hc hg hl ht) (fun M9 z9 I9 A9 hA9 hr9 => n_yarnBy_x2 hA9 hr9 hc ht)
  · exact SOp.no wno_yarnBy1 (by decide) (by decide) hJ (c_yarnBy_x hC hx) (fun M9 z9 I9 A9 hA9 hr9 => n_yarnBy_x1 hA9 hr9 hx)

theorem s_simulate (hJ : JInv M a b o lo z f t n h sv len g) : SOp (fun _ => True) mL_simulate mX8_simulate [.long sd, .int w1] M a b o lo z := by
  have hC := hJ.1
  have hG := hJ.2.2.2.1
  obtain ⟨⟨hI, hM, hK⟩, hGh, hGs, hl, hg⟩ := id hG
  have hn := hJ.n14
  have hIt : Rng (mx 947 f t) := mx_eq9.rng hI
  have hMt : MotOK (mx 947 f t) := mot_cong (fun k _ k2 => mx_eq9 k k2) hM
  rcases rng_cases w1 1 60 (by decide) (by decide) with ⟨m, h1, h2, rfl⟩ | hx
  · exact SOp.ok wok_simulate hJ hG trivial (c_simulate hC _ mx_eq9 hIt h1 h2 (hMt.txts (g := g) (l := 0) hg (by omega) (Or.inl rfl)) hMt.txf) (fun M9 z9 I9 A9 hA9 hr9 => n_simulate hA9 hr9 hIt hMt hg h1 h2)
  · exact SOp.no wno_simulate1 (by decide) (by decide) hJ (c_simulate_x1 hC hx) (fun M9 z9 I9 A9 hA9 hr9 => n_simulate_x1 hA9 hr9 hx)

theorem s_save (hJ : JInv M a b o lo z f t n h sv len g) : SOp (fun _ => True) mL_save mX8_save [.int w0] M a b o lo z := by
  have hC := hJ.1
  have hG := hJ.2.2.2.1
  obtain ⟨⟨hI, hM, hK⟩, hGh, hGs, hl, hg⟩ := id hG
  have hn := hJ.n14
  have hIt : Rng (mx 947 f t) := mx_eq9.rng hI
  have hMt : MotOK (mx 947 f t) := mot_cong (fun k _ k2 => mx_eq9 k k2) hM
  rcases nI_cases w0 (N := 2) (by decide) with ⟨s, hs, rfl⟩ | hx
  · have hG2 : GoodS f n h (svU sv s f) len g := ⟨hG.1, hGh, fun k r hk e => by
      unfold svU at e
      split at e
      · cases e; exact hG.1
      · exact hGs k r hk e, hl, hg⟩
    cases hsv : sv s with
    | none => exact SOp.ok wok_save hJ hG2 trivial (c_save0 hC hI hs hsv) (fun M9 z9 I9 A9 hA9 hr9 => n_save hA9 hr9 hs)
    | some r => exact SOp.ok wok_save hJ hG2 trivial (c_save1 hC hI hs hsv) (fun M9 z9 I9 A9 hA9 hr9 => n_save hA9 hr9 hs)
  · exact SOp.no wno_save1 (by decide) (by decide) hJ (c_save_x hC hx) (fun M9 z9 I9 A9 hA9 hr9 => n_save_x1 hA9 hr9 hx)

theorem s_restore (hJ : JInv M a b o lo z f t n h sv len g) : SOp (fun _ => True) mL_restore mX8_restore [.int w0] M a b o lo z := by
  have hC := hJ.1
  have hG := hJ.2.2.2.1
  obtain ⟨⟨hI, hM, hK⟩, hGh, hGs, hl, hg⟩ := id hG
  have hn := hJ.n14
  have hIt : Rng (mx 947 f t) := mx_eq9.rng hI
  have hMt : MotOK (mx 947 f t) := mot_cong (fun k _ k2 => mx_eq9 k k2) hM
  rcases nI_cases w0 (N := 2) (by decide) with ⟨s, hs, rfl⟩ | hx
  · cases hsv : sv s with
    | none => exact SOp.no wno_restore2 (by decide) (by decide) hJ (c_restore_x2 hC hs hsv) (fun M9 z9 I9 A9 hA9 hr9 => n_restore_x2 hA9 hr9 hs hsv)
    | some r => exact SOp.ok wok_restore hJ ⟨(hGs s r hs hsv).cong mx_eq9, fun k hk => absurd hk (by omega), hGs, hl, hg⟩ trivial (c_restore hC hs hsv (mx_eq9.rng (hGs s r hs hsv).1)) (fun M9 z9 I9 A9 hA9 hr9 => n_restore hA9 hr9 hs hsv)
  · exact SOp.no wno_restore1 (by decide) (by decide) hJ (c_restore_x hC hx) (fun M9 z9 I9 A9 hA9 hr9 => n_restore_x1 hA9 hr9 hx)

theorem s_clearText (hJ : JInv M a b o lo z f t n h sv len g) : ∃ x, SOp0 mX7_clearText mX8_clearText (.int x) M a b o lo z := by
  have hC := hJ.1
  have hG := hJ.2.2.2.1
  obtain ⟨⟨hI, hM, hK⟩, hGh, hGs, hl, hg⟩ := id hG
  have hn := hJ.n14
  have hIt : Rng (mx 947 f t) := mx_eq9.rng hI
  have hMt : MotOK (mx 947 f t) := mot_cong (fun k _ k2 => mx_eq9 k k2) hM
  exact ⟨_, SOp0.ok hJ ⟨hG.1, hGh, hGs, by omega, hg⟩ (c_clearText hC) (fun M9 z9 I9 A9 hA9 hr9 => n_clearText hA9 hr9)⟩
theorem s_errorPosition (hJ : JInv M a b o lo z f t n h sv len g) : ∃ x, SOp0 mX7_errorPosition mX8_errorPosition (.int x) M a b o lo z := by
  have hC := hJ.1
  have hG := hJ.2.2.2.1
  obtain ⟨⟨hI, hM, hK⟩, hGh, hGs, hl, hg⟩ := id hG
  have hn := hJ.n14
  have hIt : Rng (mx 947 f t) := mx_eq9.rng hI
  have hMt : MotOK (mx 947 f t) := mot_cong (fun k _ k2 => mx_eq9 k k2) hM
  exact ⟨_, SOp0.ok hJ hG (hC.rd (c_errorPosition hC hI hg hl)) (fun M9 z9 I9 A9 hA9 hr9 => n_errorPosition hA9 hr9)⟩
theorem s_right (hJ : JInv M a b o lo z f t n h sv len g) : ∃ x, SOp0 mX7_right mX8_right (.int x) M a b o lo z := by
  have hC := hJ.1
  have hG := hJ.2.2.2.1
  obtain ⟨⟨hI, hM, hK⟩, hGh, hGs, hl, hg⟩ := id hG
  have hn := hJ.n14
  have hIt : Rng (mx 947 f t) := mx_eq9.rng hI
  have hMt : MotOK (mx 947 f t) := mot_cong (fun k _ k2 => mx_eq9 k k2) hM
  exact ⟨_, SOp0.ok hJ hG (hC.rd (c_right hC hI)) (fun M9 z9 I9 A9 hA9 hr9 => n_right hA9 hr9)⟩
theorem s_missing (hJ : JInv M a b o lo z f t n h sv len g) : ∃ x, SOp0 mX7_missing mX8_missing (.int x) M a b o lo z := by
  have hC := hJ.1
  have hG := hJ.2.2.2.1
  obtain ⟨⟨hI, hM, hK⟩, hGh, hGs, hl, hg⟩ := id hG
  have hn := hJ.n14
  have hIt : Rng (mx 947 f t) := mx_eq9.rng hI
  have hMt : MotOK (mx 947 f t) := mot_cong (fun k _ k2 => mx_eq9 k k2) hM
  exact ⟨_, SOp0.ok hJ hG (hC.rd (c_missing hC hI)) (fun M9 z9 I9 A9 hA9 hr9 => n_missing hA9 hr9)⟩
theorem s_wrong (hJ : JInv M a b o lo z f t n h sv len g) : ∃ x, SOp0 mX7_wrong mX8_wrong (.int x) M a b o lo z := by
  have hC := hJ.1
  have hG := hJ.2.2.2.1
  obtain ⟨⟨hI, hM, hK⟩, hGh, hGs, hl, hg⟩ := id hG
  have hn := hJ.n14
  have hIt : Rng (mx 947 f t) := mx_eq9.rng hI
  have hMt : MotOK (mx 947 f t) := mot_cong (fun k _ k2 => mx_eq9 k k2) hM
  exact ⟨_, SOp0.ok hJ hG (hC.rd (c_wrong hC hI)) (fun M9 z9 I9 A9 hA9 hr9 => n_wrong hA9 hr9)⟩
theorem s_skipped (hJ : JInv M a b o lo z f t n h sv len g) : ∃ x, SOp0 mX7_skipped mX8_skipped (.int x) M a b o lo z := by
  have hC := hJ.1
  have hG := hJ.2.2.2.1
  obtain ⟨⟨hI, hM, hK⟩, hGh, hGs, hl, hg⟩ := id hG
  have hn := hJ.n14
  have hIt : Rng (mx 947 f t) := mx_eq9.rng hI
  have hMt : MotOK (mx 947 f t) := mot_cong (fun k _ k2 => mx_eq9 k k2) hM
  exact ⟨_, SOp0.ok hJ hG (hC.rd (c_skipped hC hI)) (fun M9 z9 I9 A9 hA9 hr9 => n_skipped hA9 hr9)⟩
theorem s_needle (hJ : JInv M a b o lo z f t n h sv len g) : ∃ x, SOp0 mX7_needle mX8_needle (.int x) M a b o lo z := by
  have hC := hJ.1
  have hG := hJ.2.2.2.1
  obtain ⟨⟨hI, hM, hK⟩, hGh, hGs, hl, hg⟩ := id hG
  have hn := hJ.n14
  have hIt : Rng (mx 947 f t) := mx_eq9.rng hI
  have hMt : MotOK (mx 947 f t) := mot_cong (fun k _ k2 => mx_eq9 k k2) hM
  exact ⟨_, SOp0.ok hJ hG (hC.rd (c_needle hC hI)) (fun M9 z9 I9 A9 hA9 hr9 => n_needle hA9 hr9)⟩
theorem s_heading (hJ : JInv M a b o lo z f t n h sv len g) : ∃ x, SOp0 mX7_heading mX8_heading (.int x) M a b o lo z := by
  have hC := hJ.1
  have hG := hJ.2.2.2.1
  obtain ⟨⟨hI, hM, hK⟩, hGh, hGs, hl, hg⟩ := id hG
  have hn := hJ.n14
  have hIt : Rng (mx 947 f t) := mx_eq9.rng hI
  have hMt : MotOK (mx 947 f t) := mot_cong (fun k _ k2 => mx_eq9 k k2) hM
  exact ⟨_, SOp0.ok hJ hG (hC.rd (c_heading hC hI)) (fun M9 z9 I9 A9 hA9 hr9 => n_heading hA9 hr9)⟩
theorem s_threaded (hJ : JInv M a b o lo z f t n h sv len g) : ∃ x, SOp0 mX7_threaded mX8_threaded (.int x) M a b o lo z := by
  have hC := hJ.1
  have hG := hJ.2.2.2.1
  obtain ⟨⟨hI, hM, hK⟩, hGh, hGs, hl, hg⟩ := id hG
  have hn := hJ.n14
  have hIt : Rng (mx 947 f t) := mx_eq9.rng hI
  have hMt : MotOK (mx 947 f t) := mot_cong (fun k _ k2 => mx_eq9 k k2) hM
  exact ⟨_, SOp0.ok hJ hG (hC.rd (c_threaded hC hI)) (fun M9 z9 I9 A9 hA9 hr9 => n_threaded hA9 hr9)⟩
theorem s_height (hJ : JInv M a b o lo z f t n h sv len g) : ∃ x, SOp0 mX7_height mX8_height (.int x) M a b o lo z := by
  have hC := hJ.1
  have hG := hJ.2.2.2.1
  obtain ⟨⟨hI, hM, hK⟩, hGh, hGs, hl, hg⟩ := id hG
  have hn := hJ.n14
  have hIt : Rng (mx 947 f t) := mx_eq9.rng hI
  have hMt : MotOK (mx 947 f t) := mot_cong (fun k _ k2 => mx_eq9 k k2) hM
  exact ⟨_, SOp0.ok hJ hG (hC.rd (c_height hC hI)) (fun M9 z9 I9 A9 hA9 hr9 => n_height hA9 hr9)⟩
theorem s_tension (hJ : JInv M a b o lo z f t n h sv len g) : ∃ x, SOp0 mX7_tension mX8_tension (.int x) M a b o lo z := by
  have hC := hJ.1
  have hG := hJ.2.2.2.1
  obtain ⟨⟨hI, hM, hK⟩, hGh, hGs, hl, hg⟩ := id hG
  have hn := hJ.n14
  have hIt : Rng (mx 947 f t) := mx_eq9.rng hI
  have hMt : MotOK (mx 947 f t) := mot_cong (fun k _ k2 => mx_eq9 k k2) hM
  exact ⟨_, SOp0.ok hJ hG (hC.rd (c_tension hC hI)) (fun M9 z9 I9 A9 hA9 hr9 => n_tension hA9 hr9)⟩
theorem s_knots (hJ : JInv M a b o lo z f t n h sv len g) : ∃ x, SOp0 mX7_knots mX8_knots (.int x) M a b o lo z := by
  have hC := hJ.1
  have hG := hJ.2.2.2.1
  obtain ⟨⟨hI, hM, hK⟩, hGh, hGs, hl, hg⟩ := id hG
  have hn := hJ.n14
  have hIt : Rng (mx 947 f t) := mx_eq9.rng hI
  have hMt : MotOK (mx 947 f t) := mot_cong (fun k _ k2 => mx_eq9 k k2) hM
  exact ⟨_, SOp0.ok hJ hG (hC.rd (c_knots hC hI)) (fun M9 z9 I9 A9 hA9 hr9 => n_knots hA9 hr9)⟩
theorem s_wouldSkip (hJ : JInv M a b o lo z f t n h sv len g) : ∃ x, SOp0 mX7_wouldSkip mX8_wouldSkip (.int x) M a b o lo z := by
  have hC := hJ.1
  have hG := hJ.2.2.2.1
  obtain ⟨⟨hI, hM, hK⟩, hGh, hGs, hl, hg⟩ := id hG
  have hn := hJ.n14
  have hIt : Rng (mx 947 f t) := mx_eq9.rng hI
  have hMt : MotOK (mx 947 f t) := mot_cong (fun k _ k2 => mx_eq9 k k2) hM
  exact ⟨_, SOp0.ok hJ hG (hC.rd (c_wouldSkip hC hI)) (fun M9 z9 I9 A9 hA9 hr9 => n_wouldSkip hA9 hr9)⟩
theorem s_canGo (hJ : JInv M a b o lo z f t n h sv len g) : ∃ x, SOp0 mX7_canGo mX8_canGo (.int x) M a b o lo z := by
  have hC := hJ.1
  have hG := hJ.2.2.2.1
  obtain ⟨⟨hI, hM, hK⟩, hGh, hGs, hl, hg⟩ := id hG
  have hn := hJ.n14
  have hIt : Rng (mx 947 f t) := mx_eq9.rng hI
  have hMt : MotOK (mx 947 f t) := mot_cong (fun k _ k2 => mx_eq9 k k2) hM
  exact ⟨_, SOp0.ok hJ hG (hC.rd (c_canGo hC hI)) (fun M9 z9 I9 A9 hA9 hr9 => n_canGo hA9 hr9 hI)⟩
theorem s_whyNoStitch (hJ : JInv M a b o lo z f t n h sv len g) : ∃ x, SOp0 mX7_whyNoStitch mX8_whyNoStitch (.int x) M a b o lo z := by
  have hC := hJ.1
  have hG := hJ.2.2.2.1
  obtain ⟨⟨hI, hM, hK⟩, hGh, hGs, hl, hg⟩ := id hG
  have hn := hJ.n14
  have hIt : Rng (mx 947 f t) := mx_eq9.rng hI
  have hMt : MotOK (mx 947 f t) := mot_cong (fun k _ k2 => mx_eq9 k k2) hM
  exact ⟨_, SOp0.ok hJ hG (hC.rd (c_whyNoStitch hC hI)) (fun M9 z9 I9 A9 hA9 hr9 => n_whyNoStitch hA9 hr9 hI)⟩
theorem s_meanHeight (hJ : JInv M a b o lo z f t n h sv len g) : ∃ x, SOp0 mX7_meanHeight mX8_meanHeight (.double x) M a b o lo z := by
  have hC := hJ.1
  have hG := hJ.2.2.2.1
  obtain ⟨⟨hI, hM, hK⟩, hGh, hGs, hl, hg⟩ := id hG
  have hn := hJ.n14
  have hIt : Rng (mx 947 f t) := mx_eq9.rng hI
  have hMt : MotOK (mx 947 f t) := mot_cong (fun k _ k2 => mx_eq9 k k2) hM
  exact ⟨_, SOp0.ok hJ hG (hC.rd (c_meanHeight hC hI)) (fun M9 z9 I9 A9 hA9 hr9 => n_meanHeight hA9 hr9 hI)⟩
theorem s_density (hJ : JInv M a b o lo z f t n h sv len g) : ∃ u, vf_n64 (FP.f2d u) ∧ SOp0 mX7_density mX8_density (.float u) M a b o lo z := by
  have hC := hJ.1
  have hG := hJ.2.2.2.1
  obtain ⟨⟨hI, hM, hK⟩, hGh, hGs, hl, hg⟩ := id hG
  have hn := hJ.n14
  have hIt : Rng (mx 947 f t) := mx_eq9.rng hI
  have hMt : MotOK (mx 947 f t) := mot_cong (fun k _ k2 => mx_eq9 k k2) hM
  exact ⟨_, vf_dens2 _ (Nat.lt_succ_of_le (cnt_le _ _)), SOp0.ok hJ hG (hC.rd (c_density hC hI)) (fun M9 z9 I9 A9 hA9 hr9 => n_density hA9 hr9)⟩
theorem s_turnLeft (hJ : JInv M a b o lo z f t n h sv len g) : ∃ x, SOp0 mX7_turnLeft mX8_turnLeft (.int x) M a b o lo z := by
  have hC := hJ.1
  have hG := hJ.2.2.2.1
  obtain ⟨⟨hI, hM, hK⟩, hGh, hGs, hl, hg⟩ := id hG
  have hn := hJ.n14
  have hIt : Rng (mx 947 f t) := mx_eq9.rng hI
  have hMt : MotOK (mx 947 f t) := mot_cong (fun k _ k2 => mx_eq9 k k2) hM
  exact ⟨_, SOp0.ok hJ (hG.rem hn (hG.1.keeps (turn_ok 3 hI))) (c_turnLeft hC hI) (fun M9 z9 I9 A9 hA9 hr9 => n_turnLeft hA9 hr9 hI)⟩
theorem s_turnRight (hJ : JInv M a b o lo z f t n h sv len g) : ∃ x, SOp0 mX7_turnRight mX8_turnRight (.int x) M a b o lo z := by
  have hC := hJ.1
  have hG := hJ.2.2.2.1
  obtain ⟨⟨hI, hM, hK⟩, hGh, hGs, hl, hg⟩ := id hG
  have hn := hJ.n14
  have hIt : Rng (mx 947 f t) := mx_eq9.rng hI
  have hMt : MotOK (mx 947 f t) := mot_cong (fun k _ k2 => mx_eq9 k k2) hM
  exact ⟨_, SOp0.ok hJ (hG.rem hn (hG.1.keeps (turn_ok 1 hI))) (c_turnRight hC hI) (fun M9 z9 I9 A9 hA9 hr9 => n_turnRight hA9 hr9 hI)⟩
theorem s_couldSew (hJ : JInv M a b o lo z f t n h sv len g) : ∃ x, SOp0 mX7_couldSew mX8_couldSew (.int x) M a b o lo z := by
  have hC := hJ.1
  have hG := hJ.2.2.2.1
  obtain ⟨⟨hI, hM, hK⟩, hGh, hGs, hl, hg⟩ := id hG
  have hn := hJ.n14
  have hIt : Rng (mx 947 f t) := mx_eq9.rng hI
  have hMt : MotOK (mx 947 f t) := mot_cong (fun k _ k2 => mx_eq9 k k2) hM
  exact ⟨_, SOp0.ok hJ hG (c_couldSew hC _ mx_eq9 hIt) (fun M9 z9 I9 A9 hA9 hr9 => n_couldSew hA9 hr9 hIt)⟩
end P74
