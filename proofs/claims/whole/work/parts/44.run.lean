section P44
variable {A : Nat → Row} {g : Nat → Nat} {len p q n lo hi c k s d e : Nat} {f : Row} {x : Int32} {ins : Bool} {aw : Nat} {T : Nat → Nat → Nat} {Ln : Nat → Nat}
/-- a level of a run: the text's number, the place, the open group's first place, its times -/
abbrev Lv : Type := Nat × Nat × Nat × Nat
/-- an order: the row, how many are broken -/
def oDo (Ln : Nat → Nat) (f : Row) (c d e : Nat) : Row × Nat :=
  if c = 115 then ((f_sew (10 * d + e) f).1, if (f_sew (10 * d + e) f).2 < 10 * d + e then 1 else 0)
  else if c = 106 then ((f_jump (10 * d + e) f).1, if (f_jump (10 * d + e) f).2 < 10 * d + e then 1 else 0)
  else if c = 108 then (f_turn f 3, 0)
  else if c = 114 then (f_turn f 1, 0)
  else if c = 99 then (if nI 20 ≤ f (432 + 5 * d) then (f_thread f d, 0) else (f, 1))
  else if c = 104 then (upd f 460 (nI d), 0)
  else if c = 120 then (if 0 < tno f then (f_cut f, 0) else (f, 1))
  else if c = 101 then (if 0 < tno f then (f_ease f, 0) else (f, 1))
  else if c = 109 then (f, if Ln d = 0 then 1 else 0)
  else (f, 0)
def oSig (c : Nat) : Nat := if c = 115 ∨ c = 106 then 3 else if c = 108 ∨ c = 114 ∨ c = 120 ∨ c = 101 then 1 else 2
def oLv (Ln : Nat → Nat) (c d s p gr ti : Nat) (rest : List Lv) : List Lv :=
  if c = 109 then (if 0 < Ln d then (d, 0, 0, 0) :: (s, p + 2, gr, ti) :: rest else (s, p + 2, gr, ti) :: rest)
  else if 50 ≤ c ∧ c ≤ 57 then (s, p + 2, p + 2, c - 48) :: rest
  else (s, p + oSig c, gr, ti) :: rest
def prun (T : Nat → Nat → Nat) (Ln : Nat → Nat) : Nat → Row → List Lv → Nat → Nat → Row × Nat
  | 0, f, _, _, br => (f, br)
  | _ + 1, f, [], _, br => (f, br)
  | w + 1, f, (s, p, gr, ti) :: rest, n, br =>
    if 400 ≤ n then (f, br)
    else if Ln s ≤ p then prun T Ln w f rest n br
    else if T s p = 41 then prun T Ln w f ((s, if 1 < ti then gr else p + 1, gr, ti - 1) :: rest) n br
    else prun T Ln w (oDo Ln f (T s p) (T s (p + 1) - 48) (T s (p + 2) - 48)).1 (oLv Ln (T s p) (T s (p + 1) - 48) s p gr ti rest) (n + 1) (br + (oDo Ln f (T s p) (T s (p + 1) - 48) (T s (p + 2) - 48)).2)
/-- the next ")" -/
def nstF (g : Nat → Nat) : Nat → Nat → Nat
  | 0, p => p
  | w + 1, p => if g p = 41 then p else nstF g w (p + 1)
def nst (g : Nat → Nat) (len p : Nat) : Nat := nstF g (len - p) p
theorem nst_in (h : p < len) : nst g len p = if g p = 41 then p else nst g len (p + 1) := by
  unfold nst
  rw [show len - p = (len - (p + 1)) + 1 from by omega]
  rfl
theorem nst_at (h : p < len) (h1 : g p = 41) : nst g len p = p := by rw [nst_in h, if_pos h1]
theorem nst_go (h : p < len) (h1 : g p ≠ 41) : nst g len p = nst g len (p + 1) := by rw [nst_in h, if_neg h1]
theorem nst_ge : ∀ w p, p ≤ nstF g w p
  | 0, p => Nat.le_refl p
  | w + 1, p => by
    unfold nstF
    split
    · exact Nat.le_refl p
    · exact Nat.le_trans (Nat.le_succ p) (nst_ge w (p + 1))
theorem nst_le : p ≤ nst g len p := nst_ge _ _
theorem pfa_ne (h : p < len) (h120 : len ≤ 120) (hv : pfa g len p aw ins = -1) : stp aw (g p) ins ≠ 9 ∧ pfa g len (p + 1) (stp aw (g p) ins) (insA (g p) ins) = -1 := by
  rw [pfa_in h] at hv
  split at hv
  · exact absurd hv (nI_nm1 (by omega))
  · next h9 => exact ⟨h9, hv⟩
theorem pfa_lt (h : p ≤ len) (h120 : len ≤ 120) (hv : pfa g len p aw ins = -1) (h1 : ¬ (aw = 1 ∧ ins = false)) : p < len := by
  by_cases e : p < len
  · exact e
  · rw [pfa_end' (by omega) h1] at hv
    exact absurd hv (nI_nm1 (by omega))
theorem nst_ok (h120 : len ≤ 120) : ∀ w {p aw : Nat}, p + w = len → pfa g len p aw true = -1 → nst g len p < len ∧ g (nst g len p) = 41
  | 0, p, aw, h, hv => absurd (pfa_lt (by omega) h120 hv (fun v => absurd v.2 (by decide))) (by omega)
  | w + 1, p, aw, h, hv => by
    have hp : p < len := by omega
    by_cases e : g p = 41
    · rw [nst_at hp e]
      exact ⟨hp, e⟩
    · rw [nst_go hp e]
      have h2 := (pfa_ne hp h120 hv).2
      rw [show insA (g p) true = true from by unfold insA; split <;> first | rfl | exact if_neg e] at h2
      exact nst_ok h120 w (by omega) h2
theorem nst_lt (h120 : len ≤ 120) (h : p ≤ len) (hv : pfa g len p aw true = -1) : nst g len p < len ∧ g (nst g len p) = 41 := nst_ok h120 (len - p) (by omega) hv
theorem enO_ok (h : enO c lo hi ≠ 9) : lo ≤ c ∧ c ≤ hi ∧ enO c lo hi = 1 := by
  unfold enO at h ⊢
  split at h
  · next w => exact ⟨w.1, w.2, if_pos w⟩
  · exact absurd rfl h
theorem insA_no (h0 : c ≠ 40) (h1 : c ≠ 41) : insA c ins = ins := by
  unfold insA
  rw [if_neg h0, if_neg h1]
/-- from 0 to 1: where an order may begin -/
theorem pfa01 (h : p < len) (h120 : len ≤ 120) (hv : pfa g len p 0 ins = -1) : pfa g len p 1 ins = -1 := by
  have hn := pfa_ne h h120 hv
  have e : stp 1 (g p) ins = stp 0 (g p) ins := by
    show (if g p = 41 ∧ ins = true then 1 else stO (g p) ins) = stO (g p) ins
    rw [if_neg]
    intro w
    have h9 := hn.1
    rw [w.1] at h9
    exact h9 (by show stO 41 ins = 9; unfold stO; rw [if_neg (by omega), if_neg (by omega), if_neg (by omega), if_neg (by omega), if_neg (by omega), if_neg (by omega)])
  rw [pfa_in h, e, if_neg hn.1]
  exact hn.2
/-- what stands where an order begins -/
theorem pfa_ord (h : p < len) (h120 : len ≤ 120) (hv : pfa g len p 1 ins = -1) (h41 : g p ≠ 41) :
    ((g p = 108 ∨ g p = 114 ∨ g p = 120 ∨ g p = 101) ∧ pfa g len (p + 1) 1 ins = -1) ∨
    ((g p = 115 ∨ g p = 106) ∧ p + 2 < len ∧ 48 ≤ g (p + 1) ∧ g (p + 1) ≤ 49 ∧ 48 ≤ g (p + 2) ∧ g (p + 2) ≤ 57 ∧ pfa g len (p + 3) 1 ins = -1) ∨
    (g p = 99 ∧ p + 1 < len ∧ 48 ≤ g (p + 1) ∧ g (p + 1) ≤ 52 ∧ pfa g len (p + 2) 1 ins = -1) ∨
    (g p = 104 ∧ p + 1 < len ∧ 49 ≤ g (p + 1) ∧ g (p + 1) ≤ 57 ∧ pfa g len (p + 2) 1 ins = -1) ∨
    (g p = 109 ∧ p + 1 < len ∧ 48 ≤ g (p + 1) ∧ g (p + 1) ≤ 51 ∧ pfa g len (p + 2) 1 ins = -1) ∨
    ((50 ≤ g p ∧ g p ≤ 57) ∧ ins = false ∧ p + 1 < len ∧ g (p + 1) = 40 ∧ pfa g len (p + 2) 0 true = -1) := by
  obtain ⟨h9, hv⟩ := pfa_ne h h120 hv
  have hs : stp 1 (g p) ins = stO (g p) ins := if_neg (fun w => h41 w.1)
  rw [hs] at h9 hv
  have dig : ∀ k lo hi, (∀ c ins, stp k c ins = enO c lo hi) → k ≠ 1 → 41 < lo → ∀ p', p' ≤ len → pfa g len p' k ins = -1 → p' < len ∧ lo ≤ g p' ∧ g p' ≤ hi ∧ pfa g len (p' + 1) 1 ins = -1 := by
    intro k lo hi hk h1 hlo p' hp' hv'
    have a := pfa_lt hp' h120 hv' (fun w => h1 w.1)
    obtain ⟨b, c⟩ := pfa_ne a h120 hv'
    rw [hk] at b c
    obtain ⟨b1, b2, b3⟩ := enO_ok b
    rw [b3, insA_no (by omega) (by omega)] at c
    exact ⟨a, b1, b2, c⟩
  by_cases c1 : g p = 115 ∨ g p = 106
  · rw [show stO (g p) ins = 2 from by unfold stO; rw [if_pos c1], insA_no (by omega) (by omega)] at hv
    have a := pfa_lt h h120 hv (fun w => absurd w.1 (by decide))
    obtain ⟨b, c⟩ := pfa_ne a h120 hv
    have e2 : stp 2 (g (p + 1)) ins = if g (p + 1) = 48 then 3 else if g (p + 1) = 49 then 4 else 9 := rfl
    rw [e2] at b c
    by_cases h48 : g (p + 1) = 48
    · rw [if_pos h48, insA_no (c := g (p + 1)) (by rw [h48]; decide) (by rw [h48]; decide)] at c
      obtain ⟨d1, d2, d3, d4⟩ := dig 3 49 57 (fun c ins => rfl) (by decide) (by decide) (p + 2) a c
      exact Or.inr (Or.inl ⟨c1, d1, by omega, by omega, by omega, d3, d4⟩)
    · rw [if_neg h48] at b c
      by_cases h49 : g (p + 1) = 49
      · rw [if_pos h49, insA_no (c := g (p + 1)) (by rw [h49]; decide) (by rw [h49]; decide)] at c
        obtain ⟨d1, d2, d3, d4⟩ := dig 4 48 50 (fun c ins => rfl) (by decide) (by decide) (p + 2) a c
        exact Or.inr (Or.inl ⟨c1, d1, by omega, by omega, by omega, by omega, d4⟩)
      · rw [if_neg h49] at b
        exact absurd rfl b
  by_cases c2 : g p = 108 ∨ g p = 114 ∨ g p = 120 ∨ g p = 101
  · rw [show stO (g p) ins = 1 from by unfold stO; rw [if_neg c1, if_pos c2], insA_no (by omega) (by omega)] at hv
    exact Or.inl ⟨c2, hv⟩
  by_cases c3 : g p = 99
  · rw [show stO (g p) ins = 5 from by unfold stO; rw [if_neg c1, if_neg c2, if_pos c3], insA_no (by omega) (by omega)] at hv
    obtain ⟨d1, d2, d3, d4⟩ := dig 5 48 52 (fun c ins => rfl) (by decide) (by decide) _ h hv
    exact Or.inr (Or.inr (Or.inl ⟨c3, d1, d2, d3, d4⟩))
  by_cases c4 : g p = 104
  · rw [show stO (g p) ins = 6 from by unfold stO; rw [if_neg c1, if_neg c2, if_neg c3, if_pos c4], insA_no (by omega) (by omega)] at hv
    obtain ⟨d1, d2, d3, d4⟩ := dig 6 49 57 (fun c ins => rfl) (by decide) (by decide) _ h hv
    exact Or.inr (Or.inr (Or.inr (Or.inl ⟨c4, d1, d2, d3, d4⟩)))
  by_cases c5 : g p = 109
  · rw [show stO (g p) ins = 7 from by unfold stO; rw [if_neg c1, if_neg c2, if_neg c3, if_neg c4, if_pos c5], insA_no (by omega) (by omega)] at hv
    obtain ⟨d1, d2, d3, d4⟩ := dig 7 48 51 (fun c ins => rfl) (by decide) (by decide) _ h hv
    exact Or.inr (Or.inr (Or.inr (Or.inr (Or.inl ⟨c5, d1, d2, d3, d4⟩))))
  by_cases c6 : 50 ≤ g p ∧ g p ≤ 57 ∧ ins = false
  · rw [show stO (g p) ins = 8 from by unfold stO; rw [if_neg c1, if_neg c2, if_neg c3, if_neg c4, if_neg c5, if_pos c6], insA_no (by omega) (by omega)] at hv
    have a := pfa_lt h h120 hv (fun w => absurd w.1 (by decide))
    obtain ⟨b, c⟩ := pfa_ne a h120 hv
    have e2 : stp 8 (g (p + 1)) ins = if g (p + 1) = 40 then 0 else 9 := rfl
    rw [e2] at b c
    by_cases h40 : g (p + 1) = 40
    · rw [if_pos h40, h40] at c
      exact Or.inr (Or.inr (Or.inr (Or.inr (Or.inr ⟨⟨c6.1, c6.2.1⟩, c6.2.2, a, h40, c⟩))))
    · rw [if_neg h40] at b
      exact absurd rfl b
  · exact absurd (by unfold stO; rw [if_neg c1, if_neg c2, if_neg c3, if_neg c4, if_neg c5, if_neg c6]) h9
def LvOK (T : Nat → Nat → Nat) (Ln : Nat → Nat) (x : Lv) : Prop :=
  x.1 < 5 ∧ x.2.2.2 < 10 ∧ x.2.1 ≤ Ln x.1 ∧ pfa (T x.1) (Ln x.1) x.2.1 1 (decide (0 < x.2.2.2)) = -1 ∧
  (0 < x.2.2.2 → pfa (T x.1) (Ln x.1) x.2.2.1 1 true = -1 ∧ x.2.2.1 ≤ Ln x.1 ∧ nst (T x.1) (Ln x.1) x.2.2.1 = nst (T x.1) (Ln x.1) x.2.1)
def LvsOK (T : Nat → Nat → Nat) (Ln : Nat → Nat) : List Lv → Prop
  | [] => True
  | x :: rest => LvOK T Ln x ∧ x.1 + rest.length < 5 ∧ LvsOK T Ln rest
/-- texts that are motifs, or empty; each motif in them has a lower number -/
def TxtsOK (T : Nat → Nat → Nat) (Ln : Nat → Nat) : Prop :=
  ∀ s, s < 5 → Ln s ≤ 120 ∧ CharsOK (T s) ∧ pfa (T s) (Ln s) 0 1 false = -1 ∧ ∀ i, i + 1 < Ln s → T s i = 109 → T s (i + 1) - 48 < s
def lms : List Lv → Nat
  | [] => 0
  | x :: r => x.2.2.2 + 1 + lms r
theorem lv_ord {gr ti : Nat} {rest : List Lv} (hT : TxtsOK T Ln) (hL : LvsOK T Ln ((s, p, gr, ti) :: rest)) (hp : p < Ln s) (h41 : T s p ≠ 41) :
    LvsOK T Ln (oLv Ln (T s p) (T s (p + 1) - 48) s p gr ti rest) ∧ lms (oLv Ln (T s p) (T s (p + 1) - 48) s p gr ti rest) ≤ lms ((s, p, gr, ti) :: rest) + 9 := by
  obtain ⟨⟨a1, a2, a3, a4, a5⟩, a6, a7⟩ := hL
  simp only at a1 a2 a3 a4 a5 a6
  obtain ⟨t1, t2, t3, t4⟩ := hT s a1
  have step : ∀ k, 0 < k → p + k ≤ Ln s → (∀ i, i < k → T s (p + i) ≠ 41) → pfa (T s) (Ln s) (p + k) 1 (decide (0 < ti)) = -1 → LvOK T Ln (s, p + k, gr, ti) := by
    intro k hk hle hne hv
    refine ⟨a1, a2, hle, hv, fun h => ⟨(a5 h).1, (a5 h).2.1, (a5 h).2.2.trans ?_⟩⟩
    have : ∀ w, w ≤ k → nst (T s) (Ln s) p = nst (T s) (Ln s) (p + w) := by
      intro w
      induction w with
      | zero => intro _; rfl
      | succ w ih =>
        intro hw
        exact (ih (by omega)).trans (nst_go (by omega) (hne w (by omega)))
    exact this k (Nat.le_refl k)
  rcases pfa_ord hp t1 a4 h41 with ⟨c, v⟩ | ⟨c, d1, d2, d3, d4, d5, v⟩ | ⟨c, d1, d2, d3, v⟩ | ⟨c, d1, d2, d3, v⟩ | ⟨c, d1, d2, d3, v⟩ | ⟨c, d1, d2, d3, v⟩
  · have e : oLv Ln (T s p) (T s (p + 1) - 48) s p gr ti rest = (s, p + 1, gr, ti) :: rest := by
      unfold oLv oSig
      rw [if_neg (by omega), if_neg (by omega), if_neg (by omega), if_pos c]
    rw [e]
    exact ⟨⟨step 1 (by omega) (by omega) (fun i hi => by have : i = 0 := by omega
                                                         subst this; exact h41) v, a6, a7⟩, Nat.le_add_right _ _⟩
  · have e : oLv Ln (T s p) (T s (p + 1) - 48) s p gr ti rest = (s, p + 3, gr, ti) :: rest := by
      unfold oLv oSig
      rw [if_neg (by omega), if_neg (by omega), if_pos c]
    rw [e]
    refine ⟨⟨step 3 (by omega) (by omega) (fun i hi => ?_) v, a6, a7⟩, Nat.le_add_right _ _⟩
    have : i = 0 ∨ i = 1 ∨ i = 2 := by omega
    rcases this with rfl | rfl | rfl
    · exact h41
    · omega
    · omega
  · have e : oLv Ln (T s p) (T s (p + 1) - 48) s p gr ti rest = (s, p + 2, gr, ti) :: rest := by
      unfold oLv oSig
      rw [if_neg (by omega), if_neg (by omega), if_neg (by omega), if_neg (by omega)]
    rw [e]
    refine ⟨⟨step 2 (by omega) (by omega) (fun i hi => ?_) v, a6, a7⟩, Nat.le_add_right _ _⟩
    have : i = 0 ∨ i = 1 := by omega
    rcases this with rfl | rfl
    · exact h41
    · omega
  · have e : oLv Ln (T s p) (T s (p + 1) - 48) s p gr ti rest = (s, p + 2, gr, ti) :: rest := by
      unfold oLv oSig
      rw [if_neg (by omega), if_neg (by omega), if_neg (by omega), if_neg (by omega)]
    rw [e]
    refine ⟨⟨step 2 (by omega) (by omega) (fun i hi => ?_) v, a6, a7⟩, Nat.le_add_right _ _⟩
    have : i = 0 ∨ i = 1 := by omega
    rcases this with rfl | rfl
    · exact h41
    · omega
  · have h2 : LvOK T Ln (s, p + 2, gr, ti) := by
      refine step 2 (by omega) (by omega) (fun i hi => ?_) v
      have : i = 0 ∨ i = 1 := by omega
      rcases this with rfl | rfl
      · exact h41
      · omega
    unfold oLv
    rw [if_pos c]
    have h5 := t4 p d1 c
    split
    · next hl =>
      refine ⟨⟨⟨by show T s (p + 1) - 48 < 5; omega, by show 0 < 10; omega, Nat.zero_le _, (hT _ (by omega)).2.2.1, fun h => absurd h (by show ¬ 0 < 0; omega)⟩, by show T s (p + 1) - 48 + (rest.length + 1) < 5; omega, h2, a6, a7⟩, ?_⟩
      show 0 + 1 + (ti + 1 + lms rest) ≤ ti + 1 + lms rest + 9
      omega
    · exact ⟨⟨h2, a6, a7⟩, Nat.le_add_right _ _⟩
  · have hti : ti = 0 := by
      have := of_decide_eq_false d1
      omega
    have e : oLv Ln (T s p) (T s (p + 1) - 48) s p gr ti rest = (s, p + 2, p + 2, T s p - 48) :: rest := by
      unfold oLv
      rw [if_neg (by omega), if_pos c]
    rw [e]
    have hlt : p + 2 < Ln s := pfa_lt (by omega) t1 v (fun w => absurd w.1 (by decide))
    have v1 := pfa01 hlt t1 v
    refine ⟨⟨⟨a1, by show T s p - 48 < 10; omega, by show p + 2 ≤ Ln s; omega, ?_, fun _ => ⟨v1, by show p + 2 ≤ Ln s; omega, rfl⟩⟩, a6, a7⟩, ?_⟩
    · show pfa (T s) (Ln s) (p + 2) 1 (decide (0 < T s p - 48)) = -1
      rw [decide_eq_true (by omega)]
      exact v1
    · show T s p - 48 + 1 + lms rest ≤ ti + 1 + lms rest + 9
      omega
/-- at the end of a group -/
theorem lv_end {gr ti : Nat} {rest : List Lv} (hT : TxtsOK T Ln) (hL : LvsOK T Ln ((s, p, gr, ti) :: rest)) (hp : p < Ln s) (h41 : T s p = 41) :
    0 < ti ∧ nst (T s) (Ln s) p = p ∧ LvsOK T Ln ((s, if 1 < ti then gr else p + 1, gr, ti - 1) :: rest) ∧ (1 < ti → nst (T s) (Ln s) gr = p) := by
  obtain ⟨⟨a1, a2, a3, a4, a5⟩, a6, a7⟩ := hL
  simp only at a1 a2 a3 a4 a5 a6
  obtain ⟨t1, t2, t3, t4⟩ := hT s a1
  have hti : 0 < ti := by
    by_cases h : 0 < ti
    · exact h
    · rw [decide_eq_false h] at a4
      have := (pfa_ne hp t1 a4).1
      rw [h41] at this
      exact absurd rfl this
  have hn := nst_at hp h41
  obtain ⟨b1, b2, b3⟩ := a5 hti
  refine ⟨hti, hn, ⟨?_, a6, a7⟩, fun _ => b3.trans hn⟩
  rw [decide_eq_true hti] at a4
  have h2 := (pfa_ne hp t1 a4).2
  rw [h41] at h2
  by_cases h1 : 1 < ti
  · rw [if_pos h1]
    refine ⟨a1, by show ti - 1 < 10; omega, b2, ?_, fun _ => ⟨b1, b2, rfl⟩⟩
    show pfa (T s) (Ln s) gr 1 (decide (0 < ti - 1)) = -1
    rw [decide_eq_true (by omega)]
    exact b1
  · rw [if_neg h1]
    refine ⟨a1, by show ti - 1 < 10; omega, hp, ?_, fun h => absurd h (by show ¬ 0 < ti - 1; omega)⟩
    show pfa (T s) (Ln s) (p + 1) 1 (decide (0 < ti - 1)) = -1
    rw [decide_eq_false (by omega)]
    exact h2
/-- inside a group the place lies ahead of its end -/
theorem lv_in {gr ti : Nat} {rest : List Lv} (hT : TxtsOK T Ln) (hL : LvsOK T Ln ((s, p, gr, ti) :: rest)) (hti : 0 < ti) : p < Ln s ∧ nst (T s) (Ln s) p < Ln s ∧ T s (nst (T s) (Ln s) p) = 41 := by
  obtain ⟨⟨a1, a2, a3, a4, a5⟩, a6, a7⟩ := hL
  simp only at a1 a2 a3 a4 a5 a6
  obtain ⟨t1, t2, t3, t4⟩ := hT s a1
  rw [decide_eq_true hti] at a4
  exact ⟨pfa_lt a3 t1 a4 (fun w => absurd w.2 (by decide)), nst_lt t1 a3 a4⟩
end P44
