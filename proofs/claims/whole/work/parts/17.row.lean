/-! the model's row as a function; what it does, as functions; a Rug's cells -/
abbrev Row : Type := Nat → Int32
theorem upd_eq {f : Row} {j : Nat} {v : Int32} : upd f j v j = v := if_pos rfl
theorem upd_ne {f : Row} {i j : Nat} {v : Int32} (h : i ≠ j) : upd f j v i = f i := if_neg h
theorem upd_comm {f : Row} {i j : Nat} {v w : Int32} (h : i ≠ j) : upd (upd f i v) j w = upd (upd f j w) i v := by
  funext k
  simp only [upd]
  by_cases h1 : k = j
  · by_cases h2 : k = i
    · exact absurd (h2.symm.trans h1) h
    · simp [h1, Ne.symm h]
  · simp [h1]
theorem upd_upd {f : Row} {i : Nat} {v w : Int32} : upd (upd f i v) i w = upd f i w := by
  funext k
  simp only [upd]
  by_cases h : k = i <;> simp [h]
theorem upd_self {f : Row} {i : Nat} {v : Int32} (h : f i = v) : upd f i v = f := by
  funext k
  simp only [upd]
  by_cases hk : k = i <;> simp [hk, h]
def gv (f : Row) (i : Nat) : Nat := (f i).toNatClampNeg
/-- the number at a place lies below a bound -/
def Bd (f : Row) (i b : Nat) : Prop := f i = nI (gv f i) ∧ gv f i < b
theorem gv_of {f : Row} {i v : Nat} (h : f i = nI v) (hv : v < 2 ^ 31) : gv f i = v := by unfold gv; rw [h, nIc hv]
theorem Bd.of {f : Row} {i v b : Nat} (h : f i = nI v) (hv : v < b) (hb : b ≤ 2 ^ 31) : Bd f i b := by
  have h1 := gv_of h (by omega)
  exact ⟨by rw [h1]; exact h, by rw [h1]; exact hv⟩
theorem gv_ne {f : Row} {i j : Nat} {v : Int32} (h : i ≠ j) : gv (upd f j v) i = gv f i := by unfold gv; rw [upd_ne h]
theorem Bd_ne {f : Row} {i j b : Nat} {v : Int32} (hij : i ≠ j) (h : Bd f i b) : Bd (upd f j v) i b := by
  unfold Bd
  rw [gv_ne hij, upd_ne hij]
  exact h
theorem Bd_eq {f : Row} {j v b : Nat} (hv : v < b) (hb : b ≤ 2 ^ 31) : Bd (upd f j (nI v)) j b := Bd.of upd_eq hv hb
def hasL (x : Int32) : Bool := decide (nI 1 ≤ x) && decide (x ≤ nI 5)
def f_yarn (h : Int32) : Int32 := nI 2 * h + nI 4
/-- thread: 0 none, else the colour and one; needle; heading -/
def tno (f : Row) : Nat := gv f 459
def nd (f : Row) : Nat := gv f 457
def hdg (f : Row) : Nat := gv f 458
def f_draw (f : Row) (c : Nat) (many : Int32) (what : Nat) : Row :=
  let goes := tkv (f (432 + 5 * c)) many
  let f1 := upd f (432 + 5 * c) (f (432 + 5 * c) - goes)
  if what = 0 then f1 else upd f1 (432 + 5 * c + what) (f1 (432 + 5 * c + what) + goes)
def f_drawn (f : Row) (c : Nat) : Int32 := f (433 + 5 * c) - f (432 + 5 * c)
def f_knot (f : Row) (c : Nat) (many : Int32) (what : Nat) : Bool := decide (f_drawn f c / nI 1000 < f_drawn (f_draw f c many what) c / nI 1000)
def f_pull (f : Row) (c : Nat) (many : Int32) (what : Nat) (tension : Int32) : Row :=
  let f1 := f_draw f c many what
  let f2 := upd f1 461 (tension + (if f_knot f c many what then nI 4 else nI 0))
  upd f2 462 (f2 462 + (if f_knot f c many what then nI 1 else nI 0))
def f_cut (f : Row) : Row := upd (upd (f_draw f (tno f - 1) (nI 20) 3) 459 (nI 0)) 461 (nI 0)
def f_thread (f : Row) (c : Nat) : Row :=
  let f0 := if 0 < tno f then f_cut f else f
  upd (upd (f_draw f0 c (nI 20) 3) 459 (nI (c + 1))) 461 (nI 0)
def f_noStitch (f : Row) : Nat := if tno f = 0 then 1 else if hasL (f (144 + nd f)) then 2 else if f (432 + 5 * (tno f - 1)) < f_yarn (f 460) then 3 else 0
def f_punch (f : Row) : Row :=
  if nI 10 ≤ f 461 then upd (f_pull f (tno f - 1) (nI 4) 2 (nI 2)) (144 + nd f) (nI 6)
  else upd (upd (f_pull f (tno f - 1) (f_yarn (f 460)) 0 (f 461 + (if nI 6 < f 460 then nI 2 else nI 1))) (144 + nd f) (nI (tno f))) (288 + nd f) (f 460)
def f_to (f : Row) : Option Nat := besd (nd f) (hdg f)
def f_goOn (f : Row) : Row := match f_to f with
  | some k => upd f 457 (nI k)
  | none => f
/-- stitches, as many as can be done: the row, how many -/
def f_sew : Nat → Row → Row × Nat
  | 0, f => (f, 0)
  | k + 1, f => if f_noStitch f = 0 then (if (f_to (f_punch f)).isSome then ((f_sew k (f_goOn (f_punch f))).1, (f_sew k (f_goOn (f_punch f))).2 + 1) else (f_punch f, 1)) else (f, 0)
def f_jump1 (f : Row) : Row :=
  let f1 := f_goOn f
  if 0 < tno f1 then f_pull f1 (tno f1 - 1) (nI 8) 2 (f1 461 + nI 1) else f1
def f_jump : Nat → Row → Row × Nat
  | 0, f => (f, 0)
  | k + 1, f => if (f_to f).isSome then ((f_jump k (f_jump1 f)).1, (f_jump k (f_jump1 f)).2 + 1) else (f, 0)
def f_turn (f : Row) (q : Nat) : Row :=
  let f1 := upd f 458 (nI ((hdg f + q) % 4))
  upd f1 461 (f1 461 + (if 0 < tno f1 then nI 2 else nI 0))
def f_ease (f : Row) : Row := upd (f_draw f (tno f - 1) (nI 10) 4) 461 (nI 0)
def f_unpick (f : Row) (j : Nat) : Row :=
  let c := gv f (144 + j) - 1
  upd (upd f (436 + 5 * c) (f (436 + 5 * c) + f_yarn (f (288 + j)))) (144 + j) (nI 0)
def f_shear1 (f : Row) (j : Nat) (h : Int32) : Row :=
  let c := gv f (144 + j) - 1
  upd (upd f (436 + 5 * c) (f (436 + 5 * c) + nI 2 * (f (288 + j) - h))) (288 + j) h
def f_shearC (f : Row) (j : Nat) (h : Int32) : Bool := hasL (f (144 + j)) && decide (h < f (288 + j))
def f_shear (h : Int32) : Nat → Row → Row × Nat
  | 0, f => (f, 0)
  | j + 1, f => let q := f_shear h j f; if f_shearC q.1 j h then (f_shear1 q.1 j h, q.2 + 1) else q
def f_mend (f : Row) (j : Nat) : Row := upd (upd (f_draw f (gv f j - 1) (f_yarn (f 460)) 0) (144 + j) (f j)) (288 + j) (f 460)
def missF (f : Row) (j : Nat) : Bool := decide (nI 0 < f j) && !hasL (f (144 + j))
/-- what holds of every row: numbers in their ranges -/
def Rng (f : Row) : Prop :=
  (∀ i, i < 144 → Bd f i 6) ∧ (∀ i, i < 144 → Bd f (144 + i) 7) ∧ (∀ i, i < 144 → hasL (f (144 + i)) = true → Bd f (288 + i) 10 ∧ 0 < gv f (288 + i)) ∧ (∀ c, c < 5 → Bd f (432 + 5 * c) 20001) ∧
  (Bd f 457 144 ∧ Bd f 458 4 ∧ Bd f 459 6 ∧ Bd f 460 10 ∧ 0 < gv f 460) ∧ (∀ m, m < 4 → Bd f (463 + m) 121)
/-! a Rug's cells: R 0 plan, 1 loops, 2 heights, 3 .. 7 yarn, 13 the numbers; ln, sg: the stored texts -/
def st2 (R : Nat → Row) (i j : Nat) (v : Int32) : Nat → Row := fun a => if a = i then upd (R i) j v else R a
theorem st2_eq {R : Nat → Row} {i j : Nat} {v : Int32} : st2 R i j v i = upd (R i) j v := if_pos rfl
theorem st2_ne {R : Nat → Row} {i j k : Nat} {v : Int32} (h : k ≠ i) : st2 R i j v k = R k := if_neg h
def rugL (a : Nat) (R : Nat → Row) : List Value := [.ref (a + 1), .ref (a + 5), .ref (a + 11), .int (R 13 0), .int (R 13 1), .int (R 13 2), .int (R 13 3), .int (R 13 4), .int (R 13 5)]
def MotsAt (M : Hp) (a : Nat) (ln : Nat → Nat) (sg : Nat → Nat → Nat) : Prop := (∃ fm : Nat → Option Nat, M (a + 11) = some (aS 4 fm) ∧ ∀ i, i < 4 → fm i = some (a + (12 + 2 * i))) ∧ ∀ i, i < 4 → ScriptAt M (a + (12 + 2 * i)) (ln i) (sg i)
def RugAt (M : Hp) (a : Nat) (R : Nat → Row) (ln : Nat → Nat) (sg : Nat → Nat → Nat) : Prop :=
  M a = some (.inr (4, rugL a R)) ∧ CanvasAt M (a + 1) (R 0) (R 1) (R 2) ∧ YarnAt M (a + 5) (R 3) (R 4) (R 5) (R 6) (R 7) ∧ MotsAt M a ln sg
/-- nothing outside the block has changed -/
def Out (M M' : Hp) (a n : Nat) : Prop := ∀ b, (b < a ∨ a + n ≤ b) → M' b = M b
theorem Out.rf {M : Hp} {a n : Nat} : Out M M a n := fun _ _ => rfl
theorem Out.tr {M M1 M2 : Hp} {a n : Nat} (h1 : Out M M1 a n) (h2 : Out M1 M2 a n) : Out M M2 a n := fun b hb => (h2 b hb).trans (h1 b hb)
theorem Out.put {M : Hp} {a n b : Nat} {e : GE} (h1 : a ≤ b) (h2 : b < a + n) : Out M (hpu M b e) a n := fun c hc => hpu_ne M e (by omega)
theorem MotsAt.keep {M M' : Hp} {a : Nat} {ln : Nat → Nat} {sg : Nat → Nat → Nat} (h : MotsAt M a ln sg) (hq : ∀ b, a + 11 ≤ b → b < a + 20 → M' b = M b) : MotsAt M' a ln sg := by
  obtain ⟨⟨fm, h1, h2⟩, h3⟩ := h
  refine ⟨⟨fm, by rw [hq _ (by omega) (by omega)]; exact h1, h2⟩, fun i hi => ?_⟩
  obtain ⟨h4, h5⟩ := h3 i hi
  exact ⟨by rw [hq _ (by omega) (by omega)]; exact h4, by rw [hq _ (by omega) (by omega)]; exact h5⟩
theorem CanvasAt.keep {M M' : Hp} {c : Nat} {p q h : Row} (hc : CanvasAt M c p q h) (hq : ∀ b, c ≤ b → b < c + 4 → M' b = M b) : CanvasAt M' c p q h := by
  obtain ⟨h0, h1, h2, h3⟩ := hc
  exact ⟨by rw [hq _ (by omega) (by omega)]; exact h0, by rw [hq _ (by omega) (by omega)]; exact h1, by rw [hq _ (by omega) (by omega)]; exact h2, by rw [hq _ (by omega) (by omega)]; exact h3⟩
theorem YarnAt.keep {M M' : Hp} {y : Nat} {k p fl e w : Row} (hc : YarnAt M y k p fl e w) (hq : ∀ b, y ≤ b → b < y + 6 → M' b = M b) : YarnAt M' y k p fl e w := by
  obtain ⟨h0, h1, h2, h3, h4, h5⟩ := hc
  exact ⟨by rw [hq _ (by omega) (by omega)]; exact h0, by rw [hq _ (by omega) (by omega)]; exact h1, by rw [hq _ (by omega) (by omega)]; exact h2, by rw [hq _ (by omega) (by omega)]; exact h3, by rw [hq _ (by omega) (by omega)]; exact h4, by rw [hq _ (by omega) (by omega)]; exact h5⟩
theorem RugAt.keep {M M' : Hp} {a : Nat} {R : Nat → Row} {ln : Nat → Nat} {sg : Nat → Nat → Nat} (h : RugAt M a R ln sg) (hq : ∀ b, a ≤ b → b < a + 20 → M' b = M b) : RugAt M' a R ln sg := by
  obtain ⟨h1, h2, h3, h4⟩ := h
  exact ⟨by rw [hq _ (by omega) (by omega)]; exact h1, h2.keep (fun b b1 b2 => hq b (by omega) (by omega)), h3.keep (fun b b1 b2 => hq b (by omega) (by omega)), h4.keep (fun b b1 b2 => hq b (by omega) (by omega))⟩
/-- a number of the Rug is set -/
theorem RugAt.setS {M : Hp} {a s : Nat} {R : Nat → Row} {ln : Nat → Nat} {sg : Nat → Nat → Nat} {v : Int32} (h : RugAt M a R ln sg) (hs : s < 6) : RugAt (hpu M a (.inr (4, (rugL a R).set (3 + s) (.int v)))) a (st2 R 13 s v) ln sg := by
  obtain ⟨h1, h2, h3, h4⟩ := h
  refine ⟨?_, ?_, ?_, h4.keep (fun b b1 b2 => hpu_ne _ _ (by omega))⟩
  · rw [hpu_same]
    match s, hs with
    | 0, _ => rfl
    | 1, _ => rfl
    | 2, _ => rfl
    | 3, _ => rfl
    | 4, _ => rfl
    | 5, _ => rfl
  · rw [st2_ne (by decide), st2_ne (by decide), st2_ne (by decide)]
    exact h2.keep (fun b b1 b2 => hpu_ne _ _ (by omega))
  · rw [st2_ne (by decide), st2_ne (by decide), st2_ne (by decide), st2_ne (by decide), st2_ne (by decide)]
    exact h3.keep (fun b b1 b2 => hpu_ne _ _ (by omega))
/-- an array of the yarn is set -/
theorem RugAt.setY {M : Hp} {a kk j : Nat} {R : Nat → Row} {ln : Nat → Nat} {sg : Nat → Nat → Nat} {v : Int32} (h : RugAt M a R ln sg) (hk : kk < 5) : RugAt (hpu M (a + 5 + (kk + 1)) (aI 5 (upd (R (3 + kk)) j v))) a (st2 R (3 + kk) j v) ln sg := by
  obtain ⟨h1, h2, h3, h4⟩ := h
  refine ⟨?_, ?_, ?_, h4.keep (fun b b1 b2 => hpu_ne _ _ (by omega))⟩
  · rw [hpu_ne _ _ (by omega), h1]
    have : st2 R (3 + kk) j v 13 = R 13 := st2_ne (by omega)
    simp only [rugL, this]
  · rw [st2_ne (by omega), st2_ne (by omega), st2_ne (by omega)]
    exact h2.keep (fun b b1 b2 => hpu_ne _ _ (by omega))
  · obtain ⟨g0, g1, g2, g3, g4, g5⟩ := h3
    have ne : ∀ b, b ≠ kk + 1 → hpu M (a + 5 + (kk + 1)) (aI 5 (upd (R (3 + kk)) j v)) (a + 5 + b) = M (a + 5 + b) := fun b hb => hpu_ne _ _ (by omega)
    refine ⟨(hpu_ne _ _ (by omega)).trans g0, ?_, ?_, ?_, ?_, ?_⟩
    · by_cases hq : kk = 0
      · subst hq; exact (hpu_same _ _ _).trans (by rw [st2_eq])
      · rw [ne 1 (by omega), st2_ne (by omega)]; exact g1
    · by_cases hq : kk = 1
      · subst hq; exact (hpu_same _ _ _).trans (by rw [st2_eq])
      · rw [ne 2 (by omega), st2_ne (by omega)]; exact g2
    · by_cases hq : kk = 2
      · subst hq; exact (hpu_same _ _ _).trans (by rw [st2_eq])
      · rw [ne 3 (by omega), st2_ne (by omega)]; exact g3
    · by_cases hq : kk = 3
      · subst hq; exact (hpu_same _ _ _).trans (by rw [st2_eq])
      · rw [ne 4 (by omega), st2_ne (by omega)]; exact g4
    · by_cases hq : kk = 4
      · subst hq; exact (hpu_same _ _ _).trans (by rw [st2_eq])
      · rw [ne 5 (by omega), st2_ne (by omega)]; exact g5
/-- an array of the canvas is set -/
theorem RugAt.setC {M : Hp} {a kk j : Nat} {R : Nat → Row} {ln : Nat → Nat} {sg : Nat → Nat → Nat} {v : Int32} (h : RugAt M a R ln sg) (hk : kk < 3) : RugAt (hpu M (a + 1 + (kk + 1)) (aI 144 (upd (R kk) j v))) a (st2 R kk j v) ln sg := by
  obtain ⟨h1, h2, h3, h4⟩ := h
  refine ⟨?_, ?_, ?_, h4.keep (fun b b1 b2 => hpu_ne _ _ (by omega))⟩
  · rw [hpu_ne _ _ (by omega), h1]
    have : st2 R kk j v 13 = R 13 := st2_ne (by omega)
    simp only [rugL, this]
  · obtain ⟨g0, g1, g2, g3⟩ := h2
    have ne : ∀ b, b ≠ kk + 1 → hpu M (a + 1 + (kk + 1)) (aI 144 (upd (R kk) j v)) (a + 1 + b) = M (a + 1 + b) := fun b hb => hpu_ne _ _ (by omega)
    refine ⟨(hpu_ne _ _ (by omega)).trans g0, ?_, ?_, ?_⟩
    · by_cases hq : kk = 0
      · subst hq; exact (hpu_same _ _ _).trans (by rw [st2_eq])
      · rw [ne 1 (by omega), st2_ne (by omega)]; exact g1
    · by_cases hq : kk = 1
      · subst hq; exact (hpu_same _ _ _).trans (by rw [st2_eq])
      · rw [ne 2 (by omega), st2_ne (by omega)]; exact g2
    · by_cases hq : kk = 2
      · subst hq; exact (hpu_same _ _ _).trans (by rw [st2_eq])
      · rw [ne 3 (by omega), st2_ne (by omega)]; exact g3
  · rw [st2_ne (by omega), st2_ne (by omega), st2_ne (by omega), st2_ne (by omega), st2_ne (by omega)]
    exact h3.keep (fun b b1 b2 => hpu_ne _ _ (by omega))
/-! the relation of a Rug's numbers to the model's row -/
def dl (x : Int32) : Int32 := if x = nI 0 then -1 else if x = nI 6 then -2 else x - nI 1
def Rel (R : Nat → Row) (ln : Nat → Nat) (sg : Nat → Nat → Nat) (f : Row) : Prop :=
  (∀ i, i < 144 → R 0 i = f i - nI 1) ∧ (∀ i, i < 144 → R 1 i = dl (f (144 + i))) ∧ (∀ i, i < 144 → R 2 i = if hasL (f (144 + i)) then f (288 + i) else nI 0) ∧
  ((∀ c, c < 5 → R 3 c = f (432 + 5 * c)) ∧ (∀ c, c < 5 → R 4 c = f (433 + 5 * c)) ∧ (∀ c, c < 5 → R 5 c = f (434 + 5 * c)) ∧ (∀ c, c < 5 → R 6 c = f (435 + 5 * c)) ∧ (∀ c, c < 5 → R 7 c = f (436 + 5 * c))) ∧
  (R 13 0 = f 457 ∧ R 13 1 = f 458 ∧ R 13 2 = f 459 - nI 1 ∧ R 13 3 = f 460 ∧ R 13 4 = f 461 ∧ R 13 5 = f 462) ∧
  ((∀ m, m < 4 → ln m ≤ 120 ∧ f (463 + m) = nI (ln m)) ∧ (∀ m, m < 4 → ∀ i, i < ln m → f (467 + 120 * m + i) = nI (sg m i)) ∧ (∀ m, CharsOK (sg m)))
def RugF (M : Hp) (a : Nat) (f : Row) : Prop := ∃ (R : Nat → Row) (ln : Nat → Nat) (sg : Nat → Nat → Nat), RugAt M a R ln sg ∧ Rel R ln sg f
/-- a method of the Rug at a: its answer, the new row -/
def Mut (v : Option Value) (M : Hp) (a : Nat) (f' : Row) (z : Nat) : GR → Hp → Nat → Prop := fun r M' z' => r = .inl v ∧ RugF M' a f' ∧ Out M M' a 20 ∧ z' = z
