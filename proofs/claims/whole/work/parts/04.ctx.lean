/-! locals -/
def gprs : Nat → List (Option Value) → List (Nat × Value)
  | _, [] => []
  | i, none :: t => gprs (i + 1) t
  | i, some v :: t => (i, v) :: gprs (i + 1) t
theorem gprs_mem : ∀ (L : List (Option Value)) (i j : Nat) (v : Value), (j, v) ∈ gprs i L ↔ ∃ k, j = i + k ∧ L[k]? = some (some v)
  | [], i, j, v => by simp [gprs]
  | none :: t, i, j, v => by
    simp only [gprs]
    rw [gprs_mem t (i + 1) j v]
    constructor
    · rintro ⟨k, h1, h2⟩
      exact ⟨k + 1, by omega, by simpa using h2⟩
    · rintro ⟨k, h1, h2⟩
      cases k with
      | zero => simp at h2
      | succ k => exact ⟨k, by omega, by simpa using h2⟩
  | some w :: t, i, j, v => by
    simp only [gprs, List.mem_cons, Prod.mk.injEq]
    rw [gprs_mem t (i + 1) j v]
    constructor
    · rintro (⟨h1, h2⟩ | ⟨k, h1, h2⟩)
      · exact ⟨0, by omega, by simp [h2]⟩
      · exact ⟨k + 1, by omega, by simpa using h2⟩
    · rintro ⟨k, h1, h2⟩
      cases k with
      | zero => left; simp at h2; exact ⟨by omega, h2.symm⟩
      | succ k => right; exact ⟨k, by omega, by simpa using h2⟩
def LRep (ls : Array Slot) (n : Nat) (L : List (Option Value)) : Prop := L.length = n ∧ lv_has ls n (gprs 0 L)
theorem LRep.get {ls : Array Slot} {n : Nat} {L : List (Option Value)} (h : LRep ls n L) {i : Nat} {v : Value} (hi : L[i]? = some (some v)) : ls[i]? = some (.val v) :=
  h.2.2.2 (i, v) ((gprs_mem L 0 i v).mpr ⟨i, by omega, hi⟩)
/-- no first half of a wide value -/
def gw1 : Option Value → Bool
  | none => true
  | some v => v.category == 1
theorem LRep.set1 {ls ls' : Array Slot} {n i : Nat} {L : List (Option Value)} {v : Value} (h : LRep ls n L) (hp : ∀ a, (i ≠ 0 ∧ L[i - 1]? = some a) → gw1 a = true)
    (h' : lv_has ls' n ((i, v) :: (gprs 0 L).filter (fun q => !(q.1 == i) && !(q.1 + 1 == i && q.2.category == 2)))) : LRep ls' n (L.set i (some v)) := by
  refine ⟨by rw [List.length_set]; exact h.1, h'.1, h'.2.1, fun q hq => ?_⟩
  obtain ⟨j, w⟩ := q
  obtain ⟨k, hk, hw⟩ := (gprs_mem _ 0 j w).mp hq
  have hjk : j = k := by omega
  subst hjk
  refine h'.2.2 (j, w) ?_
  by_cases hji : i = j
  · subst hji
    have hl : i < L.length := by
      have := (List.getElem?_eq_some_iff.mp hw).1
      rwa [List.length_set] at this
    rw [List.getElem?_set_self hl] at hw
    cases hw
    exact List.mem_cons_self
  · rw [List.getElem?_set_ne hji] at hw
    refine List.mem_cons_of_mem _ (List.mem_filter.mpr ⟨(gprs_mem L 0 j w).mpr ⟨j, by omega, hw⟩, ?_⟩)
    have h1 : (j == i) = false := by simpa using Ne.symm hji
    simp only [h1, Bool.not_false, Bool.true_and, Bool.not_eq_true', Bool.and_eq_false_iff]
    by_cases hj1 : j + 1 = i
    · right
      have := hp (some w) ⟨by omega, by rw [show i - 1 = j by omega]; exact hw⟩
      simp only [gw1, beq_iff_eq] at this
      simp [this]
    · left; simpa using hj1
theorem LRep.set2 {ls ls' : Array Slot} {n i : Nat} {L : List (Option Value)} {v : Value} (h : LRep ls n L) (hp : ∀ a, (i ≠ 0 ∧ L[i - 1]? = some a) → gw1 a = true)
    (h' : lv_has ls' n ((i, v) :: (gprs 0 L).filter (fun q => !(q.1 == i) && (!(q.1 == i + 1) && !(q.1 + 1 == i && q.2.category == 2))))) : LRep ls' n ((L.set i (some v)).set (i + 1) none) := by
  refine ⟨by rw [List.length_set, List.length_set]; exact h.1, h'.1, h'.2.1, fun q hq => ?_⟩
  obtain ⟨j, w⟩ := q
  obtain ⟨k, hk, hw⟩ := (gprs_mem _ 0 j w).mp hq
  have hjk : j = k := by omega
  subst hjk
  refine h'.2.2 (j, w) ?_
  by_cases hj2 : i + 1 = j
  · subst hj2
    have hl : i + 1 < (L.set i (some v)).length := by
      have := (List.getElem?_eq_some_iff.mp hw).1
      rwa [List.length_set] at this
    rw [List.getElem?_set_self hl] at hw
    cases hw
  · rw [List.getElem?_set_ne hj2] at hw
    by_cases hji : i = j
    · subst hji
      have hl : i < L.length := by
        have := (List.getElem?_eq_some_iff.mp hw).1
        rwa [List.length_set] at this
      rw [List.getElem?_set_self hl] at hw
      cases hw
      exact List.mem_cons_self
    · rw [List.getElem?_set_ne hji] at hw
      refine List.mem_cons_of_mem _ (List.mem_filter.mpr ⟨(gprs_mem L 0 j w).mpr ⟨j, by omega, hw⟩, ?_⟩)
      have h1 : (j == i) = false := by simpa using Ne.symm hji
      have h2 : (j == i + 1) = false := by simpa using Ne.symm hj2
      simp only [h1, h2, Bool.not_false, Bool.true_and, Bool.not_eq_true', Bool.and_eq_false_iff]
      by_cases hj1 : j + 1 = i
      · right
        have := hp (some w) ⟨by omega, by rw [show i - 1 = j by omega]; exact hw⟩
        simp only [gw1, beq_iff_eq] at this
        simp [this]
      · left; simpa using hj1
/-- less is known -/
def gsub : List (Option Value) → List (Option Value) → Prop
  | [], [] => True
  | a :: t, b :: u => (a = none ∨ a = b) ∧ gsub t u
  | _, _ => False
theorem gsub_len : ∀ (L' L : List (Option Value)), gsub L' L → L'.length = L.length
  | [], [], _ => rfl
  | a :: t, b :: u, h => by simp [gsub_len t u h.2]
  | [], _ :: _, h => h.elim
  | _ :: _, [], h => h.elim
theorem gsub_get : ∀ (L' L : List (Option Value)), gsub L' L → ∀ (i : Nat) (v : Value), L'[i]? = some (some v) → L[i]? = some (some v)
  | [], [], _, i, v, hi => by simp at hi
  | a :: t, b :: u, h, i, v, hi => by
    cases i with
    | zero =>
      simp at hi ⊢
      rcases h.1 with h1 | h1
      · rw [h1] at hi; cases hi
      · rw [← h1]; exact hi
    | succ i => simp at hi ⊢; exact gsub_get t u h.2 i v hi
  | [], _ :: _, h, _, _, _ => h.elim
  | _ :: _, [], h, _, _, _ => h.elim
theorem LRep.weak {ls : Array Slot} {n : Nat} {L L' : List (Option Value)} (h : LRep ls n L) (hs : gsub L' L) : LRep ls n L' := by
  refine ⟨by rw [gsub_len L' L hs]; exact h.1, h.2.1, h.2.2.1, fun q hq => ?_⟩
  obtain ⟨j, w⟩ := q
  obtain ⟨k, hk, hw⟩ := (gprs_mem _ 0 j w).mp hq
  have hjk : j = k := by omega
  subst hjk
  exact h.get (gsub_get L' L hs j w hw)
def gLs : List Value → List (Option Value)
  | [] => []
  | v :: t => if v.category = 2 then some v :: none :: gLs t else some v :: gLs t
theorem gLs_args : ∀ (vs : List Value) (i : Nat) (L : List (Option Value)), L = gLs vs → gprs i L = lv_args i vs
  | [], i, _, rfl => rfl
  | v :: t, i, _, rfl => by
    by_cases hc : v.category = 2
    · simp only [gLs, hc, if_true, gprs, lv_args]
      rw [gLs_args t (i + 1 + 1) _ rfl]
    · simp only [gLs, hc, if_false, gprs, lv_args]
      rw [gLs_args t (i + 1) _ rfl]
theorem gLs_len (vs : List Value) : (gLs vs).length = (lg_sl vs).length := by
  induction vs with
  | nil => rfl
  | cons v t ih =>
    by_cases hc : v.category = 2
    · simp only [gLs, hc, if_true, List.length_cons, ih]
      simp [lg_sl, hc]
    · simp only [gLs, hc, if_false, List.length_cons, ih]
      simp [lg_sl, hc]
theorem gprs_app : ∀ (L : List (Option Value)) (i n : Nat), gprs i (L ++ List.replicate n none) = gprs i L
  | [], i, 0 => rfl
  | [], i, n + 1 => by
    simp only [List.nil_append, List.replicate_succ, gprs]
    have := gprs_app [] (i + 1) n
    simpa [gprs] using this
  | none :: t, i, n => by simp only [List.cons_append, gprs]; exact gprs_app t (i + 1) n
  | some v :: t, i, n => by simp only [List.cons_append, gprs]; rw [gprs_app t (i + 1) n]
/-- the locals of an entry -/
def gL0 (vs : List Value) (n : Nat) : List (Option Value) := gLs vs ++ List.replicate (n - (gLs vs).length) none
theorem LRep.entry (vs : List Value) {n : Nat} (h : (gLs vs).length ≤ n) : LRep ((lg_sl vs ++ List.replicate (n - (lg_sl vs).length) Slot.unset).toArray) n (gL0 vs n) := by
  refine ⟨by simp [gL0]; omega, ?_⟩
  have h1 := lv_entry vs (n := n) (by rw [← gLs_len]; exact h)
  rw [show gprs 0 (gL0 vs n) = lv_args 0 vs from by rw [gL0, gprs_app, gLs_args vs 0 _ rfl]]
  exact h1
