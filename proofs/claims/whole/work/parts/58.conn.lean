section P58
variable {S : Nat → Bool} {a b c d e i h k n x y : Nat} {L L0 : Row}
/-- joined inside S -/
def Conn (S : Nat → Bool) (a b : Nat) : Prop := ∀ P : Nat → Prop, P a → (∀ x y h, x < 144 → h < 4 → P x → besd x h = some y → S x = true → S y = true → P y) → P b
theorem Conn.rf : Conn S a a := fun _ h _ => h
theorem Conn.tr (h1 : Conn S a b) (h2 : Conn S b c) : Conn S a c := fun P h0 hs => h2 P (h1 P h0 hs) hs
theorem Conn.st (hx : x < 144) (hh : h < 4) (hb : besd x h = some y) (h1 : S x = true) (h2 : S y = true) : Conn S x y := fun _ h0 hs => hs x y h hx hh h0 hb h1 h2
theorem besd_sym (hx : x < 144) (hh : h < 4) (hb : besd x h = some y) : ∃ h', h' < 4 ∧ besd y h' = some x := by
  have hc : h = 0 ∨ h = 1 ∨ h = 2 ∨ h = 3 := by omega
  rcases hc with rfl | rfl | rfl | rfl
  · unfold besd at hb
    rw [if_pos rfl] at hb
    split at hb
    · cases hb
      refine ⟨2, by decide, ?_⟩
      unfold besd
      rw [if_neg (by decide), if_neg (by decide), if_pos rfl, if_pos (by omega)]
      rfl
    · cases hb
  · unfold besd at hb
    rw [if_neg (by decide), if_pos rfl] at hb
    split at hb
    · cases hb
      refine ⟨3, by decide, ?_⟩
      unfold besd
      rw [if_neg (by decide), if_neg (by decide), if_neg (by decide), if_pos (by omega)]
      rfl
    · cases hb
  · unfold besd at hb
    rw [if_neg (by decide), if_neg (by decide), if_pos rfl] at hb
    split at hb
    · next h0 =>
      cases hb
      refine ⟨0, by decide, ?_⟩
      unfold besd
      rw [if_pos rfl, if_pos (by omega)]
      congr 1
      omega
    · cases hb
  · unfold besd at hb
    rw [if_neg (by decide), if_neg (by decide), if_neg (by decide)] at hb
    split at hb
    · next h0 =>
      cases hb
      refine ⟨1, by decide, ?_⟩
      unfold besd
      rw [if_neg (by decide), if_pos rfl, if_pos (by omega)]
      congr 1
      omega
    · cases hb
theorem Conn.sym (h : Conn S a b) : Conn S b a := h (fun x => Conn S x a) Conn.rf (fun x y h hx hh hp hb h1 h2 => by
  obtain ⟨h', a1, a2⟩ := besd_sym hx hh hb
  exact (Conn.st (besd_lt hx hb) a1 a2 h2 h1).tr hp)
theorem Conn.mem (h : Conn S a b) (ha : S a = true) : S b = true := h (fun x => S x = true) ha (fun _ _ _ _ _ _ _ _ h => h)
theorem Conn.lt (h : Conn S a b) (ha : a < 144) : b < 144 := h (fun x => x < 144) ha (fun _ _ _ _ _ hp hb _ _ => besd_lt hp hb)
/-- the least cell of an area -/
def IsL (S : Nat → Bool) (c : Nat) : Prop := S c = true ∧ ∀ d, d < 144 → Conn S d c → c ≤ d
noncomputable def lsB (S : Nat → Bool) (c : Nat) : Bool := @decide (IsL S c) (Classical.propDecidable _)
theorem lsB_iff : lsB S c = true ↔ IsL S c := @decide_eq_true_iff _ (Classical.propDecidable _)
theorem lsB_eq {q : Bool} (h : q = true ↔ IsL S c) : q = lsB S c := by
  rw [Bool.eq_iff_iff, h, lsB_iff]
noncomputable def nArea (S : Nat → Bool) : Nat := cnt (lsB S) 144
/-- labels of the model -/
def LabOK (S : Nat → Bool) (L : Row) : Prop := ∀ c, c < 144 → (S c = true → ∃ d, d ≤ c ∧ Conn S d c ∧ L c = nI d) ∧ (S c = false → L c = -1)
def LFix (S : Nat → Bool) (L : Row) : Prop := ∀ c, c < 144 → ∀ h, h < 4 → ∀ y, S c = true → besd c h = some y → S y = true → ¬ L y < L c
theorem lab_eq (hF : LFix S L) (hO : LabOK S L) (h : Conn S a b) (ha : a < 144) : L b = L a := by
  refine (h (fun x => x < 144 ∧ L x = L a) ⟨ha, rfl⟩ (fun x y h hx hh hp hb h1 h2 => ⟨besd_lt hx hb, ?_⟩)).2
  obtain ⟨h', a1, a2⟩ := besd_sym hx hh hb
  have e1 := hF x hx h hh y h1 hb h2
  have e2 := hF y (besd_lt hx hb) h' a1 x h2 a2 h1
  rw [Int32.lt_iff_toInt_lt] at e1 e2
  rw [← hp.2]
  exact Int32.toInt_inj.mp (by omega)
theorem lab_fix (hF : LFix S L) (hO : LabOK S L) (hc : c < 144) : L c = nI c ↔ IsL S c := by
  constructor
  · intro h
    have hS : S c = true := by
      cases e : S c with
      | true => rfl
      | false =>
        have := (hO c hc).2 e
        rw [h] at this
        exact absurd this (nI_nm1 (by omega))
    refine ⟨hS, fun d hd hdc => ?_⟩
    have e1 := lab_eq hF hO hdc hd
    obtain ⟨q, q1, q2, q3⟩ := (hO d hd).1 (hdc.sym.mem hS)
    rw [h, q3] at e1
    have := (nI_eq (by omega) (by omega)).mp e1
    omega
  · intro h
    obtain ⟨q, q1, q2, q3⟩ := (hO c hc).1 h.1
    have := h.2 q (by omega) q2
    rw [q3, show q = c from by omega]
theorem lab_cnt (hF : LFix S L) (hO : LabOK S L) : cnt (fun c => decide (L c = nI c)) 144 = nArea S :=
  cnt_congr (fun c hc => lsB_eq (by rw [decide_eq_true_eq]; exact lab_fix hF hO hc))
/-- the sum of the labels -/
def smL (L : Row) : Nat → Nat
  | 0 => 0
  | n + 1 => smL L n + gv L n
theorem smL_same {v : Int32} : ∀ n, n ≤ i → smL (upd L i v) n = smL L n
  | 0, _ => rfl
  | n + 1, h => by
    unfold smL
    rw [smL_same n (by omega), gv_ne (by omega)]
theorem smL_lt {v : Int32} (h : v.toNatClampNeg < gv L i) : ∀ n, i < n → smL (upd L i v) n < smL L n
  | 0, hi => absurd hi (by omega)
  | n + 1, hi => by
    unfold smL
    by_cases e : n = i
    · subst e
      rw [smL_same n (Nat.le_refl n)]
      have : gv (upd L n v) n = v.toNatClampNeg := by unfold gv; rw [upd_eq]
      omega
    · rw [gv_ne e]
      have := smL_lt h n (by omega)
      omega
/-- a pass over the cells: L0 at its begin, L now, whether something changed; cells below i, and i's headings below h, are looked at -/
def PassI (S : Nat → Bool) (L0 L : Row) (ch : Bool) (i h : Nat) : Prop :=
  LabOK S L ∧ (ch = true → smL L 144 < smL L0 144) ∧ (ch = false → L = L0 ∧ ∀ c h' y, (c < i ∨ (c = i ∧ h' < h)) → c < 144 → h' < 4 → S c = true → besd c h' = some y → S y = true → ¬ L y < L c)
theorem PassI.skip {ch : Bool} (hP : PassI S L0 L ch i h) (hq : ∀ y, S i = true → besd i h = some y → S y = true → ¬ L y < L i) : PassI S L0 L ch i (h + 1) := by
  refine ⟨hP.1, hP.2.1, fun e => ⟨(hP.2.2 e).1, fun c h' y hc hc1 hh hs hb hy => ?_⟩⟩
  by_cases w : c = i ∧ h' = h
  · obtain ⟨rfl, rfl⟩ := w
    exact hq y hs hb hy
  · exact (hP.2.2 e).2 c h' y (by omega) hc1 hh hs hb hy
theorem PassI.next {ch : Bool} (hP : PassI S L0 L ch i h) (hq : S i = false ∨ 4 ≤ h) : PassI S L0 L ch (i + 1) 0 := by
  refine ⟨hP.1, hP.2.1, fun e => ⟨(hP.2.2 e).1, fun c h' y hc hc1 hh hs hb hy => ?_⟩⟩
  by_cases w : c = i
  · subst w
    rcases hq with q | q
    · rw [q] at hs; cases hs
    · exact (hP.2.2 e).2 c h' y (by omega) hc1 hh hs hb hy
  · exact (hP.2.2 e).2 c h' y (by omega) hc1 hh hs hb hy
theorem PassI.take {ch : Bool} (hP : PassI S L0 L ch i h) (hi : i < 144) (hh : h < 4) (h1 : S i = true) (hb : besd i h = some y) (h2 : S y = true) (hlt : L y < L i) (h0 : ch = false → L = L0) (hle : ch = true → smL L 144 < smL L0 144) : PassI S L0 (upd L i (L y)) true i (h + 1) := by
  obtain ⟨d, d1, d2, d3⟩ := (hP.1 i hi).1 h1
  obtain ⟨e, e1, e2, e3⟩ := (hP.1 y (besd_lt hi hb)).1 h2
  have hy : y < 144 := besd_lt hi hb
  have hed : e < d := by
    rw [d3, e3] at hlt
    exact (nI_ltI (by omega) (by omega)).mp hlt
  have hsm : smL (upd L i (L y)) 144 < smL L 144 := by
    refine smL_lt ?_ 144 hi
    unfold gv
    rw [d3, e3, nIc (by omega), nIc (by omega)]
    exact hed
  refine ⟨fun c hc => ?_, fun _ => ?_, fun w => noTF w⟩
  · by_cases w : c = i
    · subst w
      refine ⟨fun _ => ⟨e, by omega, e2.tr ?_, by rw [upd_eq]; exact e3⟩, fun w => by rw [h1] at w; cases w⟩
      exact (Conn.st hi hh hb h1 h2).sym
    · rw [upd_ne w]
      exact hP.1 c hc
  · cases ch with
    | true => have := hle rfl; omega
    | false => rw [← h0 rfl]; exact hsm
end P58
