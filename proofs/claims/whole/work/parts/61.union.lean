section P61
variable {S : Nat → Bool} {ch : Nat → Nat} {a b c d i h j k n m r s t u x y r1 r2 : Nat}
theorem besd_02 (hb : besd x 0 = some y) : besd y 2 = some x := by
  unfold besd at hb
  rw [if_pos rfl] at hb
  split at hb
  · cases hb
    unfold besd
    rw [if_neg (by decide), if_neg (by decide), if_pos rfl, if_pos (by omega)]
    rfl
  · cases hb
theorem besd_13 (hb : besd x 1 = some y) : besd y 3 = some x := by
  unfold besd at hb
  rw [if_neg (by decide), if_pos rfl] at hb
  split at hb
  · cases hb
    unfold besd
    rw [if_neg (by decide), if_neg (by decide), if_neg (by decide), if_pos (by omega)]
    rfl
  · cases hb
theorem besd_23 (hh : h = 2 ∨ h = 3) (hb : besd x h = some y) : y < x := by
  rcases hh with rfl | rfl
  · unfold besd at hb
    rw [if_neg (by decide), if_neg (by decide), if_pos rfl] at hb
    split at hb
    · cases hb; omega
    · cases hb
  · unfold besd at hb
    rw [if_neg (by decide), if_neg (by decide), if_neg (by decide)] at hb
    split at hb
    · cases hb; omega
    · cases hb
def itr (ch : Nat → Nat) : Nat → Nat → Nat
  | 0, c => c
  | n + 1, c => itr ch n (ch c)
theorem itr_s : ∀ n c, itr ch (n + 1) c = ch (itr ch n c)
  | 0, _ => rfl
  | n + 1, c => itr_s n (ch c)
theorem itr_st (h : ch r = r) : ∀ n, itr ch n r = r
  | 0 => rfl
  | n + 1 => by
    show itr ch n (ch r) = r
    rw [h]
    exact itr_st h n
theorem itr_add : ∀ n m c, itr ch (n + m) c = itr ch m (itr ch n c)
  | 0, m, c => by rw [Nat.zero_add]; rfl
  | n + 1, m, c => by
    rw [show n + 1 + m = (n + m) + 1 from by omega]
    exact itr_add n m (ch c)
/-- r is the chief of c -/
def Rt (ch : Nat → Nat) (c r : Nat) : Prop := (∃ t, itr ch t c = r) ∧ ch r = r
theorem Rt.ge (h1 : itr ch t c = r) (h2 : ch r = r) (h : t ≤ n) : itr ch n c = r := by
  obtain ⟨m, rfl⟩ : ∃ m, n = t + m := ⟨n - t, by omega⟩
  rw [itr_add, h1, itr_st h2]
theorem Rt.uniq (h1 : Rt ch c r) (h2 : Rt ch c s) : r = s := by
  obtain ⟨⟨t1, e1⟩, e2⟩ := h1
  obtain ⟨⟨t2, e3⟩, e4⟩ := h2
  rw [← Rt.ge (n := t1 + t2) e1 e2 (by omega), ← Rt.ge (n := t1 + t2) e3 e4 (by omega)]
def updN (ch : Nat → Nat) (a b : Nat) : Nat → Nat := fun c => if c = a then b else ch c
theorem itr_hit : ∀ t c, itr ch t c = r1 → ∃ t', t' ≤ t ∧ itr (updN ch r1 r2) t' c = r1
  | 0, c, h => ⟨0, Nat.le_refl 0, h⟩
  | t + 1, c, h => by
    by_cases e : c = r1
    · exact ⟨0, by omega, e⟩
    · obtain ⟨t', a, b⟩ := itr_hit t (ch c) h
      refine ⟨t' + 1, by omega, ?_⟩
      show itr (updN ch r1 r2) t' (updN ch r1 r2 c) = r1
      rw [show updN ch r1 r2 c = ch c from if_neg e]
      exact b
theorem itr_miss (h1 : ch r1 = r1) (hne : r ≠ r1) : ∀ t c, itr ch t c = r → itr (updN ch r1 r2) t c = r
  | 0, c, h => h
  | t + 1, c, h => by
    by_cases e : c = r1
    · rw [e, itr_st h1] at h
      exact absurd h.symm hne
    · show itr (updN ch r1 r2) t (updN ch r1 r2 c) = r
      rw [show updN ch r1 r2 c = ch c from if_neg e]
      exact itr_miss h1 hne t (ch c) h
theorem Rt.upd (h1 : ch r1 = r1) (h2 : ch r2 = r2) (hne : r1 ≠ r2) (h : Rt ch c r) : Rt (updN ch r1 r2) c (if r = r1 then r2 else r) := by
  have h2' : updN ch r1 r2 r2 = r2 := (if_neg (fun q => hne q.symm)).trans h2
  obtain ⟨⟨t, e⟩, e2⟩ := h
  by_cases q : r = r1
  · rw [if_pos q]
    obtain ⟨t', a, b⟩ := itr_hit (r2 := r2) t c (e.trans q)
    refine ⟨⟨t' + 1, ?_⟩, h2'⟩
    rw [itr_s, b]
    exact if_pos rfl
  · rw [if_neg q]
    exact ⟨⟨t, itr_miss h1 q t c e⟩, (if_neg q).trans e2⟩
def UF (S : Nat → Bool) (ch : Nat → Nat) (u i : Nat) : Prop :=
  (∀ c, c < 144 → ch c < 144) ∧ (∀ c, c < 144 → ∃ t, t ≤ u ∧ ch (itr ch t c) = itr ch t c) ∧ u ≤ cnt (fun c => !decide (ch c = c)) 144 ∧
  (∀ c, c < 144 → ch c ≠ c → Conn S (ch c) c) ∧ (∀ c, c < i → ch c < i) ∧ (∀ c, i ≤ c → c < 144 → ch c = c)
theorem cnt_lt {P : Nat → Bool} (hy : P y = false) : ∀ n, y < n → cnt P n < n
  | 0, h => absurd h (by omega)
  | n + 1, h => by
    by_cases e : n = y
    · subst e
      rw [cnt_f hy]
      have := cnt_le P n
      omega
    · have := cnt_lt hy n (by omega)
      unfold cnt
      split <;> omega
theorem UF.itr_lt (hU : UF S ch u i) (hc : c < 144) : ∀ t, itr ch t c < 144
  | 0 => hc
  | t + 1 => by
    rw [itr_s]
    exact hU.1 _ (UF.itr_lt hU hc t)
theorem UF.root (hU : UF S ch u i) (hc : c < 144) : ∃ r, r < 144 ∧ Rt ch c r := by
  obtain ⟨t, -, h⟩ := hU.2.1 c hc
  exact ⟨itr ch t c, hU.itr_lt hc t, ⟨t, rfl⟩, h⟩
theorem UF.le (hU : UF S ch u i) (hr : ch r = r) (hr9 : r < 144) : u ≤ 143 := by
  have := cnt_lt (P := fun c => !decide (ch c = c)) (y := r) (by simp [hr]) 144 hr9
  have := hU.2.2.1
  omega
theorem UF.conn (hU : UF S ch u i) (hc : c < 144) : ∀ t, Conn S (itr ch t c) c
  | 0 => Conn.rf
  | t + 1 => by
    rw [itr_s]
    have h := UF.conn hU hc t
    by_cases e : ch (itr ch t c) = itr ch t c
    · rw [e]; exact h
    · exact (hU.2.2.2.1 _ (hU.itr_lt hc t) e).tr h
theorem UF.itr_i (hU : UF S ch u i) (hc : c < i) : ∀ t, itr ch t c < i
  | 0 => hc
  | t + 1 => by
    rw [itr_s]
    exact hU.2.2.2.2.1 _ (UF.itr_i hU hc t)
theorem UF.init : UF S (fun c => c) 0 0 :=
  ⟨fun c h => h, fun c _ => ⟨0, Nat.le_refl 0, rfl⟩, Nat.zero_le _, fun c _ h => absurd rfl h, fun c h => absurd h (by omega), fun c _ _ => rfl⟩
theorem UF.next (hU : UF S ch u i) (hi : i < 144) : UF S ch u (i + 1) :=
  ⟨hU.1, hU.2.1, hU.2.2.1, hU.2.2.2.1, fun c h => by
    by_cases e : c = i
    · rw [e, hU.2.2.2.2.2 i (Nat.le_refl i) hi]; omega
    · have := hU.2.2.2.2.1 c (by omega); omega, fun c h h9 => hU.2.2.2.2.2 c (by omega) h9⟩
theorem UF.join (hU : UF S ch u i) (hi : i ≤ 144) (hx : x < i) (hy : y < i) (hxy : Conn S x y) (h1 : Rt ch x r1) (h2 : Rt ch y r2) (hne : r1 ≠ r2) : UF S (updN ch r1 r2) (u + 1) i := by
  obtain ⟨⟨t1, e1⟩, s1⟩ := h1
  obtain ⟨⟨t2, e2⟩, s2⟩ := h2
  have r1i : r1 < i := e1 ▸ hU.itr_i hx t1
  have r2i : r2 < i := e2 ▸ hU.itr_i hy t2
  have s2' : updN ch r1 r2 r2 = r2 := (if_neg (fun q => hne q.symm)).trans s2
  refine ⟨fun c hc => ?_, fun c hc => ?_, ?_, fun c hc hq => ?_, fun c hc => ?_, fun c hc h9 => ?_⟩
  · unfold updN
    split
    · omega
    · exact hU.1 c hc
  · obtain ⟨t, ht, hr⟩ := hU.2.1 c hc
    by_cases q : itr ch t c = r1
    · obtain ⟨t', a, b⟩ := itr_hit (r2 := r2) t c q
      have e : itr (updN ch r1 r2) (t' + 1) c = r2 := by
        rw [itr_s, b]
        exact if_pos rfl
      exact ⟨t' + 1, by omega, by rw [e]; exact s2'⟩
    · have e := itr_miss (r2 := r2) s1 q t c rfl
      exact ⟨t, by omega, by rw [e]; exact (if_neg q).trans hr⟩
  · have e0 := cnt_rem (P := fun c => !decide (updN ch r1 r2 c = c)) (y := r1) (by simp [updN, Ne.symm hne]) 144 (by omega)
    have e1 : cnt (fun c => if c = r1 then false else !decide (updN ch r1 r2 c = c)) 144 = cnt (fun c => !decide (ch c = c)) 144 := by
      refine cnt_congr (fun c hc => ?_)
      by_cases q : c = r1
      · simp [q, s1]
      · simp [q, updN]
    have := hU.2.2.1
    omega
  · by_cases q : c = r1
    · rw [show updN ch r1 r2 c = r2 from if_pos q, q, ← e1, ← e2]
      exact (hU.conn (by omega) t2).tr (hxy.sym.tr (hU.conn (by omega) t1).sym)
    · rw [show updN ch r1 r2 c = ch c from if_neg q] at hq ⊢
      exact hU.2.2.2.1 c hc hq
  · unfold updN
    split
    · exact r2i
    · exact hU.2.2.2.2.1 c hc
  · rw [show updN ch r1 r2 c = ch c from if_neg (by omega)]
    exact hU.2.2.2.2.2 c hc h9
/-- the chiefs among the cells of S below i -/
def rtB (S : Nat → Bool) (ch : Nat → Nat) (c : Nat) : Bool := S c && decide (ch c = c)
theorem rt_join (hr : r1 < i) (hS : S r1 = true) (s1 : ch r1 = r1) (hne : r1 ≠ r2) : cnt (rtB S (updN ch r1 r2)) i + 1 = cnt (rtB S ch) i := by
  rw [← cnt_rem (P := rtB S ch) (y := r1) (by simp [rtB, hS, s1]) i hr]
  congr 1
  refine cnt_congr (fun c hc => ?_)
  by_cases q : c = r1
  · simp [q, rtB, updN, Ne.symm hne]
  · simp [q, rtB, updN]
def SameR (ch : Nat → Nat) (x y : Nat) : Prop := ∃ r, Rt ch x r ∧ Rt ch y r
theorem SameR.upd (h1 : ch r1 = r1) (h2 : ch r2 = r2) (hne : r1 ≠ r2) (h : SameR ch x y) : SameR (updN ch r1 r2) x y := by
  obtain ⟨r, a, b⟩ := h
  exact ⟨_, a.upd h1 h2 hne, b.upd h1 h2 hne⟩
/-- the pairs of the cells below i, and those of i in the headings below q, are joined -/
def PD (S : Nat → Bool) (ch : Nat → Nat) (i q : Nat) : Prop := ∀ x h y, (x < i ∨ (x = i ∧ h < q)) → x < 144 → (h = 2 ∨ h = 3) → S x = true → besd x h = some y → S y = true → SameR ch x y
theorem PD.upd (h1 : ch r1 = r1) (h2 : ch r2 = r2) (hne : r1 ≠ r2) (h : PD S ch i j) : PD S (updN ch r1 r2) i j := fun x hh y a b c d e f => (h x hh y a b c d e f).upd h1 h2 hne
theorem PD.step (h : PD S ch i j) (hq : ∀ y, S i = true → besd i j = some y → S y = true → SameR ch i y) : PD S ch i (j + 1) := fun x hh y a b c d e f => by
  by_cases w : x = i ∧ hh = j
  · obtain ⟨rfl, rfl⟩ := w
    exact hq y d e f
  · exact h x hh y (by omega) b c d e f
theorem PD.next (h : PD S ch i 4) : PD S ch (i + 1) 2 := fun x hh y a b c d e f => h x hh y (by omega) b c d e f
theorem PD.none (h : PD S ch i 2) (hS : S i = false) : PD S ch (i + 1) 2 := fun x hh y a b c d e f => by
  by_cases w : x = i
  · rw [w, hS] at d; cases d
  · exact h x hh y (by omega) b c d e f
theorem cnt_rel {P : Nat → Bool} {R : Nat → Nat → Prop} (hR : ∀ c c' d, R c d → R c' d → P c = true → P c' = true → c = c') : ∀ n (Q : Nat → Bool), (∀ c, c < n → P c = true → ∃ d, d < m ∧ Q d = true ∧ R c d) → cnt P n ≤ cnt Q m
  | 0, Q, _ => Nat.zero_le _
  | n + 1, Q, h => by
    cases hp : P n with
    | false =>
      rw [cnt_f hp]
      exact cnt_rel hR n Q (fun c hc => h c (by omega))
    | true =>
      rw [cnt_t hp]
      obtain ⟨d, d1, d2, d3⟩ := h n (by omega) hp
      rw [← cnt_rem d2 m d1]
      refine Nat.succ_le_succ (cnt_rel hR n _ (fun c hc hpc => ?_))
      obtain ⟨e, e1, e2, e3⟩ := h c (by omega) hpc
      refine ⟨e, e1, ?_, e3⟩
      by_cases q : e = d
      · subst q
        have := hR c n e e3 d3 hpc hp
        omega
      · simp [q, e2]
theorem ex_least {P : Nat → Prop} : ∀ n, P n → ∃ m, P m ∧ ∀ k, P k → m ≤ k := by
  intro n
  induction n using Nat.strongRecOn with
  | _ n ih =>
    intro h
    by_cases w : ∃ k, k < n ∧ P k
    · obtain ⟨k, k1, k2⟩ := w
      exact ih k k1 k2
    · exact ⟨n, h, fun k hk => Nat.le_of_not_lt (fun q => w ⟨k, q, hk⟩)⟩
theorem conn_root (hU : UF S ch u 144) (hP : PD S ch 144 2) (ha : a < 144) (h : Conn S a b) : SameR ch a b := by
  have h0 : SameR ch a a := by
    obtain ⟨r, -, hr⟩ := hU.root ha
    exact ⟨r, hr, hr⟩
  refine (h (fun x => x < 144 ∧ SameR ch a x) ⟨ha, h0⟩ (fun x y h hx hh hp hb h1 h2 => ⟨besd_lt hx hb, ?_⟩)).2
  have hy := besd_lt hx hb
  have key : SameR ch x y := by
    have : h = 0 ∨ h = 1 ∨ h = 2 ∨ h = 3 := by omega
    rcases this with rfl | rfl | rfl | rfl
    · obtain ⟨r, a1, a2⟩ := hP y 2 x (Or.inl hy) hy (Or.inl rfl) h2 (besd_02 hb) h1
      exact ⟨r, a2, a1⟩
    · obtain ⟨r, a1, a2⟩ := hP y 3 x (Or.inl hy) hy (Or.inr rfl) h2 (besd_13 hb) h1
      exact ⟨r, a2, a1⟩
    · exact hP x 2 y (Or.inl hx) hx (Or.inl rfl) h1 hb h2
    · exact hP x 3 y (Or.inl hx) hx (Or.inr rfl) h1 hb h2
  obtain ⟨r, b1, b2⟩ := hp.2
  obtain ⟨s, c1, c2⟩ := key
  have := Rt.uniq b2 c1
  subst this
  exact ⟨r, b1, c2⟩
theorem uf_area (hU : UF S ch u 144) (hP : PD S ch 144 2) : cnt (rtB S ch) 144 = nArea S := by
  refine Nat.le_antisymm ?_ ?_
  · refine cnt_rel (R := fun c d => c < 144 ∧ Conn S d c) (fun c c' d h h' p p' => ?_) 144 _ (fun c hc p => ?_)
    · obtain ⟨r, a1, a2⟩ := conn_root hU hP h.1 (h.2.sym.tr h'.2)
      simp only [rtB, Bool.and_eq_true, decide_eq_true_eq] at p p'
      have e1 : r = c := Rt.uniq a1 ⟨⟨0, rfl⟩, p.2⟩
      have e2 : r = c' := Rt.uniq a2 ⟨⟨0, rfl⟩, p'.2⟩
      omega
    · simp only [rtB, Bool.and_eq_true, decide_eq_true_eq] at p
      obtain ⟨m, ⟨m1, m2⟩, m3⟩ := ex_least (P := fun d => d < 144 ∧ Conn S d c) c ⟨hc, Conn.rf⟩
      exact ⟨m, m1, lsB_iff.mpr ⟨m2.sym.mem p.1, fun d hd hdm => m3 d ⟨hd, hdm.tr m2⟩⟩, hc, m2⟩
  · refine cnt_rel (R := fun c d => c < 144 ∧ Rt ch c d ∧ Conn S d c) (fun c c' d h h' p p' => ?_) 144 _ (fun c hc p => ?_)
    · have hcc : Conn S c c' := h.2.2.sym.tr h'.2.2
      have e1 := (lsB_iff.mp p').2 c h.1 hcc
      have e2 := (lsB_iff.mp p).2 c' h'.1 hcc.sym
      omega
    · obtain ⟨t, -, hr⟩ := hU.2.1 c hc
      have hcn := hU.conn hc t
      refine ⟨itr ch t c, hU.itr_lt hc t, ?_, hc, ⟨⟨t, rfl⟩, hr⟩, hcn⟩
      simp only [rtB, Bool.and_eq_true, decide_eq_true_eq]
      exact ⟨hcn.sym.mem (lsB_iff.mp p).1, hr⟩
end P61
