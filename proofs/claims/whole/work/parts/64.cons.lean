section P64
variable {f f' : Row} {c d i j k n w : Nat} {v x y h : Int32}
theorem trm_ne (h1 : k ≠ 144 + i) (h2 : k ≠ 288 + i) : trm (upd f k v) c i = trm f c i := by
  unfold trm
  rw [upd_ne (Ne.symm h1), upd_ne (Ne.symm h2)]
theorem smC_free (h1 : k < 144 ∨ 432 ≤ k) : smC (upd f k v) c 144 = smC f c 144 := smC_cong (fun i hi => trm_ne (by omega) (by omega))
theorem trm_0 (h : hasL (f (144 + j)) = false) (hd : d < 5) : trm f d j = 0 := by
  unfold trm
  rw [if_neg]
  intro e
  rw [e, (dl_loop hd).2] at h
  cases h
theorem Cons.free (hC : Cons f) (hk : k < 144 ∨ 457 ≤ k) : Cons (upd f k v) := fun d hd => by
  rw [smC_free (by omega), upd_ne (by omega), upd_ne (by omega), upd_ne (by omega), upd_ne (by omega), upd_ne (by omega)]
  exact hC d hd
theorem Cons.draw (hC : Cons f) (hc : c < 5) (hw : w = 2 ∨ w = 3 ∨ w = 4) : Cons (f_draw f c x w) := fun d hd => by
  have h0 := hC d hd
  unfold f_draw
  rw [if_neg (by omega)]
  rw [smC_free (by omega), smC_free (by omega)]
  by_cases e : d = c
  · subst e
    rcases hw with rfl | rfl | rfl
    · rw [show 432 + 5 * d + 2 = 434 + 5 * d from by omega]
      rw [upd_ne (show 433 + 5 * d ≠ 434 + 5 * d by omega), upd_ne (show 433 + 5 * d ≠ 432 + 5 * d by omega), upd_ne (show 432 + 5 * d ≠ 434 + 5 * d by omega), upd_eq, upd_eq, upd_ne (show 434 + 5 * d ≠ 432 + 5 * d by omega), upd_ne (show 435 + 5 * d ≠ 434 + 5 * d by omega), upd_ne (show 435 + 5 * d ≠ 432 + 5 * d by omega), upd_ne (show 436 + 5 * d ≠ 434 + 5 * d by omega), upd_ne (show 436 + 5 * d ≠ 432 + 5 * d by omega)]
      generalize tkv (f (432 + 5 * d)) x = g at *
      grind
    · rw [show 432 + 5 * d + 3 = 435 + 5 * d from by omega]
      rw [upd_ne (show 433 + 5 * d ≠ 435 + 5 * d by omega), upd_ne (show 433 + 5 * d ≠ 432 + 5 * d by omega), upd_ne (show 432 + 5 * d ≠ 435 + 5 * d by omega), upd_eq, upd_eq, upd_ne (show 435 + 5 * d ≠ 432 + 5 * d by omega), upd_ne (show 434 + 5 * d ≠ 435 + 5 * d by omega), upd_ne (show 434 + 5 * d ≠ 432 + 5 * d by omega), upd_ne (show 436 + 5 * d ≠ 435 + 5 * d by omega), upd_ne (show 436 + 5 * d ≠ 432 + 5 * d by omega)]
      generalize tkv (f (432 + 5 * d)) x = g at *
      grind
    · rw [show 432 + 5 * d + 4 = 436 + 5 * d from by omega]
      rw [upd_ne (show 433 + 5 * d ≠ 436 + 5 * d by omega), upd_ne (show 433 + 5 * d ≠ 432 + 5 * d by omega), upd_ne (show 432 + 5 * d ≠ 436 + 5 * d by omega), upd_eq, upd_eq, upd_ne (show 436 + 5 * d ≠ 432 + 5 * d by omega), upd_ne (show 434 + 5 * d ≠ 436 + 5 * d by omega), upd_ne (show 434 + 5 * d ≠ 432 + 5 * d by omega), upd_ne (show 435 + 5 * d ≠ 436 + 5 * d by omega), upd_ne (show 435 + 5 * d ≠ 432 + 5 * d by omega)]
      generalize tkv (f (432 + 5 * d)) x = g at *
      grind
  · have q : ∀ k, (k = 432 + 5 * d ∨ k = 433 + 5 * d ∨ k = 434 + 5 * d ∨ k = 435 + 5 * d ∨ k = 436 + 5 * d) → ∀ u v', upd (upd f (432 + 5 * c) u) (432 + 5 * c + w) v' k = f k := fun k hk u v' => by rw [upd_ne (by omega), upd_ne (by omega)]
    rw [q _ (by omega), q _ (by omega), q _ (by omega), q _ (by omega), q _ (by omega)]
    exact h0
theorem Cons.pull (hC : Cons f) (hc : c < 5) (hw : w = 2 ∨ w = 3 ∨ w = 4) : Cons (f_pull f c x w y) := ((hC.draw hc hw).free (by omega)).free (by omega)
/-- a loop is put into a cell that has none, and its yarn is drawn -/
theorem Cons.put {g : Row} (hC : Cons f) (hc : c < 5) (hj : j < 144) (hl : hasL (f (144 + j)) = false) (hy : ¬ f (432 + 5 * c) < f_yarn h) (hg : ∀ k, (k < 144 + j ∨ 144 + j < k) → (k < 288 + j ∨ 288 + j < k) → k < 457 → g k = f_draw f c (f_yarn h) 0 k) (h1 : g (144 + j) = nI (c + 1)) (h2 : g (288 + j) = h) : Cons g := fun d hd => by
  have h0 := hC d hd
  have ed : f_draw f c (f_yarn h) 0 = upd f (432 + 5 * c) (f (432 + 5 * c) - f_yarn h) := by
    unfold f_draw
    simp only [if_true]
    rw [show tkv (f (432 + 5 * c)) (f_yarn h) = f_yarn h from if_neg hy]
  rw [ed] at hg
  have es := smC_one (f := f) (f' := g) (c := d) (j := j) (n := 144) hj (fun i hi e => by
    unfold trm
    rw [hg (144 + i) (by omega) (by omega) (by omega), hg (288 + i) (by omega) (by omega) (by omega), upd_ne (by omega), upd_ne (by omega)])
  rw [trm_0 hl hd] at es
  rw [hg (433 + 5 * d) (by omega) (by omega) (by omega), hg (434 + 5 * d) (by omega) (by omega) (by omega), hg (435 + 5 * d) (by omega) (by omega) (by omega), hg (436 + 5 * d) (by omega) (by omega) (by omega), hg (432 + 5 * d) (by omega) (by omega) (by omega)]
  rw [upd_ne (show 433 + 5 * d ≠ 432 + 5 * c by omega), upd_ne (show 434 + 5 * d ≠ 432 + 5 * c by omega), upd_ne (show 435 + 5 * d ≠ 432 + 5 * c by omega), upd_ne (show 436 + 5 * d ≠ 432 + 5 * c by omega)]
  by_cases e : d = c
  · subst e
    have et : trm g d j = f_yarn h := by
      unfold trm
      rw [h1, h2, if_pos rfl]
    rw [et] at es
    rw [upd_eq]
    generalize f_yarn h = g0 at *
    grind
  · have et : trm g d j = 0 := by
      unfold trm
      rw [h1, if_neg (fun q => e ((nI_eq (by omega) (by omega)).mp q |> fun w => by omega))]
    rw [et] at es
    rw [upd_ne (by omega)]
    grind
/-- a cell without a loop becomes another one without -/
theorem Cons.none (hC : Cons f) (hj : j < 144) (hl : hasL (f (144 + j)) = false) (hv : hasL v = false) : Cons (upd f (144 + j) v) := fun d hd => by
  have h0 := hC d hd
  have e : smC (upd f (144 + j) v) d 144 = smC f d 144 := smC_cong (fun i hi => by
    by_cases q : i = j
    · subst q
      rw [trm_0 hl hd, trm_0 (by rw [upd_eq]; exact hv) hd]
    · exact trm_ne (by omega) (by omega))
  rw [e, upd_ne (by omega), upd_ne (by omega), upd_ne (by omega), upd_ne (by omega), upd_ne (by omega)]
  exact h0
/-- yarn of a loop becomes waste -/
theorem Cons.waste {g : Row} (hC : Cons f) (hc : c < 5) (hj : j < 144) (hl : f (144 + j) = nI (c + 1)) (hg : ∀ k, k ≠ 144 + j → k ≠ 288 + j → k ≠ 436 + 5 * c → g k = f k) (hw : g (436 + 5 * c) + trm g c j = f (436 + 5 * c) + f_yarn (f (288 + j))) (ho : ∀ d, d < 5 → d ≠ c → g (144 + j) ≠ nI (d + 1)) : Cons g := fun d hd => by
  have h0 := hC d hd
  have es := smC_one (f := f) (f' := g) (c := d) (j := j) (n := 144) hj (fun i hi e => by
    unfold trm
    rw [hg (144 + i) (by omega) (by omega) (by omega), hg (288 + i) (by omega) (by omega) (by omega)])
  rw [hg (433 + 5 * d) (by omega) (by omega) (by omega), hg (434 + 5 * d) (by omega) (by omega) (by omega), hg (435 + 5 * d) (by omega) (by omega) (by omega), hg (432 + 5 * d) (by omega) (by omega) (by omega)]
  by_cases e : d = c
  · subst e
    have et : trm f d j = f_yarn (f (288 + j)) := by
      unfold trm
      rw [if_pos hl]
    rw [et] at es
    generalize f_yarn (f (288 + j)) = g0 at *
    grind
  · have et : trm g d j = 0 := by
      unfold trm
      rw [if_neg (ho d hd e)]
    have et2 : trm f d j = 0 := by
      unfold trm
      rw [hl, if_neg (fun q => e ((nI_eq (by omega) (by omega)).mp q |> fun w => by omega))]
    rw [et, et2] at es
    rw [hg (436 + 5 * d) (by omega) (by omega) (by omega)]
    grind
theorem Cons.wind (hC : Cons f) (hc : c < 5) : Cons (upd (upd f (432 + 5 * c) (f (432 + 5 * c) + x)) (433 + 5 * c) (f (433 + 5 * c) + x)) := fun d hd => by
  have h0 := hC d hd
  rw [smC_free (by omega), smC_free (by omega)]
  rw [upd_ne (show 434 + 5 * d ≠ 433 + 5 * c by omega), upd_ne (show 435 + 5 * d ≠ 433 + 5 * c by omega), upd_ne (show 436 + 5 * d ≠ 433 + 5 * c by omega), upd_ne (show 434 + 5 * d ≠ 432 + 5 * c by omega), upd_ne (show 435 + 5 * d ≠ 432 + 5 * c by omega), upd_ne (show 436 + 5 * d ≠ 432 + 5 * c by omega), upd_ne (show 432 + 5 * d ≠ 433 + 5 * c by omega)]
  by_cases e : d = c
  · subst e
    rw [upd_eq, upd_eq]
    grind
  · rw [upd_ne (by omega), upd_ne (by omega), upd_ne (by omega)]
    exact h0
/-! the moves -/
theorem Cons.cut (hC : Cons f) (hI : Rng f) (ht : 0 < tno f) : Cons (f_cut f) := ((hC.draw (by have := hI.tlt; omega) (by omega)).free (by omega)).free (by omega)
theorem Cons.thread (hC : Cons f) (hI : Rng f) (hc : c < 5) : Cons (f_thread f c) := by
  have h : Cons (if 0 < tno f then f_cut f else f) := by
    split
    · next h => exact hC.cut hI h
    · exact hC
  exact ((h.draw hc (by omega)).free (by omega)).free (by omega)
theorem Cons.ease (hC : Cons f) (hI : Rng f) (ht : 0 < tno f) : Cons (f_ease f) := (hC.draw (by have := hI.tlt; omega) (by omega)).free (by omega)
theorem Cons.turn (hC : Cons f) : Cons (f_turn f n) := (hC.free (by omega)).free (by omega)
theorem Cons.goOn (hC : Cons f) : Cons (f_goOn f) := by
  unfold f_goOn
  cases f_to f with
  | none => exact hC
  | some j => exact hC.free (by omega)
theorem Cons.jump1 (hC : Cons f) (hI : Rng f) : Cons (f_jump1 f) := by
  have h := hI.goOn
  have hth := h.tlt
  unfold f_jump1
  simp only []
  split
  · exact hC.goOn.pull (by omega) (by omega)
  · exact hC.goOn
theorem noSt_c (h : f_noStitch f = 0) : hasL (f (144 + nd f)) = false ∧ ¬ f (432 + 5 * (tno f - 1)) < f_yarn (f 460) := by
  unfold f_noStitch at h
  split at h
  · cases h
  · split at h
    · cases h
    · next h1 =>
      split at h
      · cases h
      · next h2 => exact ⟨by cases q : hasL (f (144 + nd f)) with | false => rfl | true => exact absurd q h1, h2⟩
theorem Cons.punch (hC : Cons f) (hI : Rng f) (h0 : f_noStitch f = 0) : Cons (f_punch f) := by
  have ht := noSt_t h0
  have hth := hI.tlt
  have hnd := hI.ndl
  obtain ⟨h1, h2⟩ := noSt_c h0
  unfold f_punch
  split
  · refine (hC.pull (by omega) (by omega)).none hnd ?_ (by decide)
    rw [pull_ne (by omega) (by decide) (by omega)]
    exact h1
  · refine hC.put (c := tno f - 1) (j := nd f) (h := f 460) (by omega) hnd h1 h2 (fun k k1 k2 k3 => ?_) ?_ upd_eq
    · rw [upd_ne (by omega), upd_ne (by omega)]
      unfold f_pull
      rw [upd_ne (by omega), upd_ne (by omega)]
    · rw [upd_ne (by omega), upd_eq]
      congr 1
      omega
theorem Cons.sew : ∀ w {f : Row}, Cons f → Rng f → Cons (f_sew w f).1
  | 0, _, h, _ => h
  | w + 1, f, h, hI => by
    unfold f_sew
    split
    · next h0 =>
      split
      · exact Cons.sew w (h.punch hI h0).goOn ((hI.punch (noSt_t h0)).goOn)
      · exact h.punch hI h0
    · exact h
theorem Cons.jump : ∀ w {f : Row}, Cons f → Rng f → Cons (f_jump w f).1
  | 0, _, h, _ => h
  | w + 1, f, h, hI => by
    unfold f_jump
    split
    · exact Cons.jump w (h.jump1 hI) hI.jump1
    · exact h
theorem cell_c (hI : Rng f) (hj : j < 144) (hl : hasL (f (144 + j)) = true) : gv f (144 + j) - 1 < 5 ∧ f (144 + j) = nI (gv f (144 + j) - 1 + 1) := by
  have h := hasL_gv (hI.2.1 j hj) hl
  refine ⟨by omega, ?_⟩
  rw [show gv f (144 + j) - 1 + 1 = gv f (144 + j) from by omega]
  exact (hI.2.1 j hj).1
theorem Cons.unpick (hC : Cons f) (hI : Rng f) (hj : j < 144) (hl : hasL (f (144 + j)) = true) : Cons (f_unpick f j) := by
  obtain ⟨h1, h2⟩ := cell_c hI hj hl
  refine hC.waste h1 hj h2 (fun k a b c => ?_) ?_ (fun d hd hne => ?_)
  · unfold f_unpick
    rw [upd_ne a, upd_ne c]
  · have e : trm (f_unpick f j) (gv f (144 + j) - 1) j = 0 := trm_0 (by unfold f_unpick; rw [upd_eq]; decide) h1
    rw [e]
    unfold f_unpick
    rw [upd_ne (by omega), upd_eq]
    grind
  · unfold f_unpick
    rw [upd_eq]
    intro q
    have := (nI_eq (by omega) (by omega)).mp q
    omega
theorem Cons.shear1 (hC : Cons f) (hI : Rng f) (hj : j < 144) (hl : hasL (f (144 + j)) = true) : Cons (f_shear1 f j h) := by
  obtain ⟨h1, h2⟩ := cell_c hI hj hl
  have e0 : f_shear1 f j h (144 + j) = f (144 + j) := by
    unfold f_shear1
    rw [upd_ne (by omega), upd_ne (by omega)]
  refine hC.waste h1 hj h2 (fun k a b c => ?_) ?_ (fun d hd hne => ?_)
  · unfold f_shear1
    rw [upd_ne b, upd_ne c]
  · have e : trm (f_shear1 f j h) (gv f (144 + j) - 1) j = f_yarn h := by
      unfold trm
      rw [e0, if_pos h2]
      unfold f_shear1
      rw [upd_eq]
    rw [e]
    unfold f_shear1 f_yarn
    rw [upd_ne (by omega), upd_eq]
    grind
  · rw [e0, h2]
    intro q
    have := (nI_eq (by omega) (by omega)).mp q
    omega
theorem Cons.shear {s : Nat} (hs : s < 10) (h0 : 0 < s) : ∀ j, j ≤ 144 → ∀ {f : Row}, Cons f → Rng f → Cons (f_shear (nI s) j f).1
  | 0, _, _, h, _ => h
  | j + 1, hj, f, h, hI => by
    unfold f_shear
    have a := Cons.shear hs h0 j (by omega) h hI
    have b := Rng.shear hs h0 j (by omega) hI
    simp only []
    split
    · next q =>
      have q' : hasL ((f_shear (nI s) j f).1 (144 + j)) = true := by
        unfold f_shearC at q
        simp only [Bool.and_eq_true] at q
        exact q.1
      exact a.shear1 b (by omega) q'
    · exact a
theorem Cons.mend (hC : Cons f) (hI : Rng f) (hj : j < 144) (hm : missF f j = true) (hy : ¬ f (432 + 5 * (gv f j - 1)) < f_yarn (f 460)) : Cons (f_mend f j) := by
  obtain ⟨p1, p2, p3⟩ := hI.plan hj hm
  have hl : hasL (f (144 + j)) = false := by
    unfold missF at hm
    simp only [Bool.and_eq_true, Bool.not_eq_true'] at hm
    exact hm.2
  refine hC.put (c := gv f j - 1) (j := j) (h := f 460) (by omega) hj hl hy (fun k k1 k2 k3 => ?_) ?_ ?_
  · unfold f_mend
    rw [upd_ne (by omega), upd_ne (by omega)]
  · unfold f_mend
    rw [upd_ne (by omega), upd_eq, show gv f j - 1 + 1 = gv f j from by omega]
    exact (hI.1 j hj).1
  · unfold f_mend
    rw [upd_eq]
theorem Cons.cong (hC : Cons f) (he : Eq9 f f') : Cons f' := fun d hd => by
  rw [he _ (by omega), he _ (by omega), he _ (by omega), he _ (by omega), he _ (by omega), smC_cong (fun i hi => by unfold trm; rw [he _ (by omega), he _ (by omega)])]
  exact hC d hd
end P64
