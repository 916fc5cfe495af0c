section P63
variable {f f' : Row} {g : Nat → Nat} {len l s i n p w c : Nat} {A : Nat → Row} {M : Hp} {a j : Nat}
theorem stp_m {aw : Nat} {ins : Bool} (h : stp aw 109 ins ≠ 9) : stp aw 109 ins = 7 := by
  have e : stO 109 ins = 7 := by
    unfold stO
    rw [if_neg (by omega), if_neg (by omega), if_neg (by omega), if_neg (by omega), if_pos rfl]
  match aw with
  | 0 => exact e
  | 1 =>
    show (if 109 = 41 ∧ ins = true then 1 else stO 109 ins) = 7
    rw [if_neg (fun q => absurd q.1 (by decide))]
    exact e
  | 2 => exact absurd rfl h
  | 3 => exact absurd rfl h
  | 4 => exact absurd rfl h
  | 5 => exact absurd rfl h
  | 6 => exact absurd rfl h
  | 7 => exact absurd rfl h
  | 8 => exact absurd rfl h
  | n + 9 => exact absurd rfl h
/-- behind an m stands its digit -/
theorem m_digs (h120 : len ≤ 120) : ∀ w {p aw : Nat} {ins : Bool}, p + w = len → pfa g len p aw ins = -1 → ∀ i, p ≤ i → i < len → g i = 109 → i + 1 < len ∧ 48 ≤ g (i + 1) ∧ g (i + 1) ≤ 51
  | 0, p, aw, ins, h, hv, i, h1, h2, h3 => absurd h2 (by omega)
  | w + 1, p, aw, ins, h, hv, i, h1, h2, h3 => by
    have hp : p < len := by omega
    obtain ⟨h9, hn⟩ := pfa_ne hp h120 hv
    by_cases e : i = p
    · subst e
      rw [h3] at h9 hn
      rw [stp_m h9] at hn
      have hl := pfa_lt (show i + 1 ≤ len from hp) h120 hn (fun q => absurd q.1 (by decide))
      have h7 := (pfa_ne hl h120 hn).1
      have e7 : stp 7 (g (i + 1)) (insA 109 ins) = enO (g (i + 1)) 48 51 := rfl
      rw [e7] at h7
      obtain ⟨a, b, -⟩ := enO_ok h7
      exact ⟨hl, a, b⟩
    · exact m_digs h120 w (by omega) hn i (by omega) h2 h3
theorem hasM_f (hg : CharsOK g) : ∀ d i, hasM g len n d i = false → ∀ k, i ≤ k → k < i + d → g k = 109 → ¬ nI n ≤ nI (sgn len g (k + 1)) - nI 48
  | 0, i, _, k, h1, h2, _ => absurd h2 (by omega)
  | d + 1, i, h, k, h1, h2, h3 => by
    have h' : ((decide (g i = 109) && decide (nI n ≤ nI (sgn len g (i + 1)) - nI 48)) || hasM g len n d (i + 1)) = false := h
    rw [Bool.or_eq_false_iff] at h'
    by_cases e : k = i
    · subst e
      have := h'.1
      rw [decide_eq_true h3, Bool.true_and] at this
      exact of_decide_eq_false this
    · exact hasM_f hg d (i + 1) h'.2 k (by omega) (by omega) h3
/-- a text that is a motif -/
def TxOK (g : Nat → Nat) (len : Nat) : Prop := pf g len len 0 0 false = -1
theorem TxOK.v (h : TxOK g len) (h120 : len ≤ 120) : 0 < len ∧ pfa g len 0 1 false = -1 := by
  have h0 : pfa g len 0 0 false = -1 := h
  have hl : 0 < len := pfa_lt (Nat.zero_le _) h120 h0 (fun q => absurd q.1 (by decide))
  exact ⟨hl, pfa01 hl h120 h0⟩
/-! the stored texts of a row -/
def mLn (f : Row) (s : Nat) : Nat := gv f (463 + s)
def mT (f : Row) (s i : Nat) : Nat := if i < mLn f s then gv f (467 + 120 * s + i) else 0
def MotOK (f : Row) : Prop := ∀ s, s < 4 → Bd f (463 + s) 121 ∧ (∀ i, i < mLn f s → Bd f (467 + 120 * s + i) 256) ∧ pfa (mT f s) (mLn f s) 0 1 false = -1 ∧ ∀ i, i + 1 < mLn f s → mT f s i = 109 → mT f s (i + 1) - 48 < s
def TT (f : Row) (g : Nat → Nat) (s i : Nat) : Nat := if s = 4 then g i else mT f s i
def LL' (f : Row) (l s : Nat) : Nat := if s = 4 then l else mLn f s
theorem mLn_le (h : MotOK f) (hs : s < 4) : mLn f s ≤ 120 := by
  have := (h s hs).1.2
  unfold mLn
  omega
theorem MotOK.txts (h : MotOK f) (hg : CharsOK g) (hl : l ≤ 120) (ht : l = 0 ∨ TxOK g l) : TxtsOK (TT f g) (LL' f l) := by
  intro s hs
  unfold LL'
  by_cases e : s = 4
  · subst e
    have e4 : TT f g 4 = g := by funext i; exact if_pos rfl
    rw [if_pos rfl, e4]
    rcases ht with h0 | ht
    · subst h0
      exact ⟨by omega, hg, by rw [pfa_end]; rfl, fun i hi => absurd hi (by omega)⟩
    · obtain ⟨h0, hv⟩ := ht.v hl
      refine ⟨hl, hg, hv, fun i hi hm => ?_⟩
      have := m_digs hl l (p := 0) (by omega) hv i (Nat.zero_le _) (by omega) hm
      omega
  · have e4 : TT f g s = mT f s := by funext i; exact if_neg e
    rw [if_neg e, e4]
    obtain ⟨h1, h2, h3, h4⟩ := h s (by omega)
    refine ⟨mLn_le h (by omega), fun i => ?_, h3, h4⟩
    unfold mT
    split
    · next hi => exact (h2 i hi).2
    · decide
theorem MotOK.txf (h : MotOK f) : TxF f (TT f g) (LL' f l) := by
  intro s hs
  obtain ⟨h1, h2, h3, h4⟩ := h s hs
  unfold LL' TT
  rw [if_neg (by omega)]
  refine ⟨h1.1, fun i hi => ?_⟩
  rw [if_neg (by omega)]
  unfold mT
  rw [if_pos hi]
  exact (h2 i hi).1
theorem MotOK.txr (h : MotOK f) (hj : A j = f) (ht : ∀ i, i < l → A 12 i = nI (g i)) : TxR A j (TT f g) (LL' f l) := by
  have hf := h.txf (g := g) (l := l)
  refine ⟨fun s hs i hi => ?_, fun s hs => by rw [hj]; exact (hf s hs).1⟩
  unfold chF
  by_cases e : s = 4
  · subst e
    rw [if_pos rfl, ht i (by unfold LL' at hi; rw [if_pos rfl] at hi; exact hi)]
    unfold TT
    rw [if_pos rfl]
  · rw [if_neg e, hj]
    exact (hf s (by omega)).2 i hi
/-- rows that agree on their numbers -/
def Eq9 (f f' : Row) : Prop := ∀ k, k < 947 → f' k = f k
theorem Eq9.gvv (h : Eq9 f f') (hk : i < 947) : gv f' i = gv f i := by unfold gv; rw [h i hk]
theorem Eq9.bd {b : Nat} (h : Eq9 f f') (hk : i < 947) (hb : Bd f i b) : Bd f' i b := by
  unfold Bd
  rw [h.gvv hk, h i hk]
  exact hb
theorem Eq9.rng (h : Eq9 f f') (hI : Rng f) : Rng f' := by
  obtain ⟨h1, h2, h3, h4, ⟨a, b, c, d, e⟩, h6⟩ := hI
  refine ⟨fun i hi => h.bd (by omega) (h1 i hi), fun i hi => h.bd (by omega) (h2 i hi), fun i hi hl => ?_, fun c hc => h.bd (by omega) (h4 c hc), ⟨h.bd (by omega) a, h.bd (by omega) b, h.bd (by omega) c, h.bd (by omega) d, by rw [h.gvv (by omega)]; exact e⟩, fun m hm => h.bd (by omega) (h6 m hm)⟩
  rw [h _ (by omega)] at hl
  obtain ⟨u, v⟩ := h3 i hi hl
  exact ⟨h.bd (by omega) u, by rw [h.gvv (by omega)]; exact v⟩
theorem mot_cong (hk : ∀ k, 463 ≤ k → k < 947 → f' k = f k) (hM : MotOK f) : MotOK f' := by
  have gk : ∀ k, 463 ≤ k → k < 947 → gv f' k = gv f k := fun k a b => by unfold gv; rw [hk k a b]
  intro s hs
  obtain ⟨h1, h2, h3, h4⟩ := hM s hs
  have el : mLn f' s = mLn f s := gk _ (by omega) (by omega)
  have l9 := mLn_le hM hs
  have et : mT f' s = mT f s := by
    funext i
    unfold mT
    rw [el]
    split
    · exact gk _ (by omega) (by omega)
    · rfl
  rw [el, et]
  have bd : ∀ k b, 463 ≤ k → k < 947 → Bd f k b → Bd f' k b := fun k b u v hb => by
    unfold Bd
    rw [gk k u v, hk k u v]
    exact hb
  exact ⟨bd _ _ (by omega) (by omega) h1, fun i hi => bd _ _ (by omega) (by omega) (h2 i hi), h3, h4⟩
theorem RugF.cong (h : RugF M a f) (he : Eq9 f f') : RugF M a f' := by
  obtain ⟨R, ln, sg, hA, h0, h1, h2, ⟨k3, k4, k5, k6, k7⟩, ⟨s0, s1, s2, s3, s4, s5⟩, m1, m2, m3⟩ := h
  refine ⟨R, ln, sg, hA, fun i hi => by rw [he _ (by omega)]; exact h0 i hi, fun i hi => by rw [he _ (by omega)]; exact h1 i hi, fun i hi => by rw [he _ (by omega), he _ (by omega)]; exact h2 i hi, ⟨fun i hi => by rw [he _ (by omega)]; exact k3 i hi, fun i hi => by rw [he _ (by omega)]; exact k4 i hi, fun i hi => by rw [he _ (by omega)]; exact k5 i hi, fun i hi => by rw [he _ (by omega)]; exact k6 i hi, fun i hi => by rw [he _ (by omega)]; exact k7 i hi⟩, ⟨by rw [he _ (by omega)]; exact s0, by rw [he _ (by omega)]; exact s1, by rw [he _ (by omega)]; exact s2, by rw [he _ (by omega)]; exact s3, by rw [he _ (by omega)]; exact s4, by rw [he _ (by omega)]; exact s5⟩, fun m hm => ⟨(m1 m hm).1, by rw [he _ (by omega)]; exact (m1 m hm).2⟩, fun m hm i hi => by have := (m1 m hm).1; rw [he _ (by omega)]; exact m2 m hm i hi, m3⟩
theorem mx_eq9 {f1 f2 : Row} : Eq9 f1 (mx 947 f1 f2) := fun _ hk => if_pos hk
/-- the sum of the yarn in the loops of a colour -/
def trm (f : Row) (c i : Nat) : Int32 := if f (144 + i) = nI (c + 1) then f_yarn (f (288 + i)) else 0
def smC (f : Row) (c : Nat) : Nat → Int32
  | 0 => 0
  | n + 1 => smC f c n + trm f c n
theorem smC_cong {n : Nat} (h : ∀ i, i < n → trm f' c i = trm f c i) : smC f' c n = smC f c n := by
  induction n with
  | zero => rfl
  | succ n ih =>
    unfold smC
    rw [ih (fun i hi => h i (by omega)), h n (by omega)]
theorem smC_one {n : Nat} (hj : j < n) (h : ∀ i, i < n → i ≠ j → trm f' c i = trm f c i) : smC f' c n + trm f c j = smC f c n + trm f' c j := by
  induction n with
  | zero => omega
  | succ n ih =>
    unfold smC
    by_cases e : j = n
    · subst e
      rw [smC_cong (fun i hi => h i (by omega) (by omega))]
      grind
    · have := ih (by omega) (fun i hi => h i (by omega))
      rw [h n (by omega) (by omega)]
      grind
def Cons (f : Row) : Prop := ∀ c, c < 5 → f (433 + 5 * c) - f (432 + 5 * c) = smC f c 144 + (f (434 + 5 * c) + f (435 + 5 * c) + f (436 + 5 * c))
end P63
