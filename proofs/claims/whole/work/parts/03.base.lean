/-! a method: name, code, locals, answer, (frames, locals' words, cells, slots) of its room, handlers -/
abbrev GM : Type := MethodName × ByteArray × Nat × Option FieldType × (Nat × Nat × Nat × Nat) × List (Nat × Nat × Nat × Nat)
abbrev gy (m : GM) : MethodName := m.1
abbrev gc (m : GM) : ByteArray := m.2.1
abbrev gl (m : GM) : Nat := m.2.2.1
abbrev gr (m : GM) : Option FieldType := m.2.2.2.1
abbrev gfr (m : GM) : Nat := m.2.2.2.2.1.1
abbrev glo (m : GM) : Nat := m.2.2.2.2.1.2.1
abbrev gce (m : GM) : Nat := m.2.2.2.2.1.2.2.1
abbrev gsl (m : GM) : Nat := m.2.2.2.2.1.2.2.2
abbrev ghh (m : GM) : List (Nat × Nat × Nat × Nat) := m.2.2.2.2.2
abbrev dc (m : GM) (pc : Nat) (i : Instr) (len : Nat) : Prop := decode (gc m) pc = .ok (i, len)
/-- the words that every method is given -/
def gW : List Cond := lw_tbl.filter goodWord
def gcw (m : GM) : Cond := match ghh m with
  | [] => Cond.code (gy m) (gc m) (gl m) (gr m)
  | h :: t => Cond.codeWith (gy m) (gc m) (gl m) (gr m) (h :: t)
def gws (m : GM) : List Cond := gcw m :: gW
def grm (m : GM) : Room := { frames := gfr m, cells := gce m, slots := gsl m, locals := glo m }
theorem gW_mem {w : Cond} (i : Nat) (h : lw_tbl[i]? = some w) (g : goodWord w = true) : w ∈ gW := List.mem_filter.mpr ⟨List.mem_of_getElem? h, g⟩
theorem gW_good : ∀ w ∈ gW, w ∈ gW ∧ ((w.onTables && w.keeps) = true ∨ ∃ ty, w = .arrayClass ty) := fun w h => ⟨h, good_of_word (List.mem_filter.mp h).2⟩
/-! the heap as a function of addresses -/
abbrev GE : Type := (Nat × vp_A) ⊕ (Nat × List Value)
abbrev Hp : Type := Nat → Option GE
abbrev GR : Type := Option Value ⊕ String
def hpu (M : Hp) (a : Nat) (e : GE) : Hp := fun b => if b = a then some e else M b
theorem hpu_same (M : Hp) (a : Nat) (e : GE) : hpu M a e a = some e := by simp [hpu]
theorem hpu_ne (M : Hp) {a b : Nat} (e : GE) (h : b ≠ a) : hpu M a e b = M b := by simp [hpu, h]
def aI (n : Nat) (f : Nat → Int32) : GE := .inl (0, n, .inl f)
def aC (n : Nat) (f : Nat → Int32) : GE := .inl (1, n, .inl f)
def aZ (n : Nat) (f : Nat → Int32) : GE := .inl (2, n, .inl f)
def aJ (n : Nat) (f : Nat → Int64) : GE := .inl (3, n, .inr (.inl f))
def aR (n : Nat) (f : Nat → Option Nat) : GE := .inl (4, n, .inr (.inr (.inr (.inr f))))
def aS (n : Nat) (f : Nat → Option Nat) : GE := .inl (5, n, .inr (.inr (.inr (.inr f))))
/-- the law's script: only read -/
def aX (n : Nat) (f : Nat → Int32) : GE := .inl (9, n, .inl f)
def oB (ci : Nat) (fs : List Value) : GE := .inr (ci, fs)
def gty : Nat → FieldType := fun k => match k with
  | 0 => .int
  | 1 => .char
  | 2 => .boolean
  | 3 => .long
  | 4 => .object "RugPunch$Rug"
  | 5 => .object "RugPunch$Script"
  | _ => .int
def gro (e : GE) : Bool := match e with
  | .inl q => decide (q.1 = 9)
  | .inr _ => false
def gAt (D : va_G) (dA : Nat → ClassId) (a : Nat) (e : GE) (H : Heap) : Prop := match e with
  | .inl (k, x) => if k = 9 then ∃ (scr : Cell) (f : Nat → Int32), x.2 = .inl f ∧ H[a]? = some scr ∧ scr.cls = dA 9 ∧ scr.vm ≠ .unknown ∧ (∀ k, scr.vm ≠ .statics k) ∧ scr.slots.size = x.1 ∧ ∀ j : Nat, j < x.1 → scr.slots[j]? = some (.int (f j)) else H[a]? = some (vp_cell (dA k) x)
  | .inr o => va_at D vwCl (a, .inr o) H
/-- the heap H holds M; the cells of M that may be written lie from base on -/
def GRep (D : va_G) (dA : Nat → ClassId) (base z : Nat) (M : Hp) (H : Heap) : Prop :=
  H.size = z ∧ ∀ (a : Nat) (e : GE), M a = some e → gAt D dA a e H ∧ (gro e = false → base ≤ a)
theorem gAt.kept {D : va_G} {dA : Nat → ClassId} {a : Nat} {e : GE} {H H1 : Heap} (h : gAt D dA a e H) (hq : H1[a]? = H[a]?) : gAt D dA a e H1 := by
  cases e with
  | inl x =>
    obtain ⟨k, x⟩ := x
    by_cases hk : k = 9
    · simp only [gAt, hk, if_true] at h ⊢
      obtain ⟨scr, f, h0, h1, h2⟩ := h
      exact ⟨scr, f, h0, by rw [hq]; exact h1, h2⟩
    · simp only [gAt, hk, if_false] at h ⊢
      rw [hq]; exact h
  | inr o => exact va_at.kept (q := (a, .inr o)) h hq
theorem gAt.lt {D : va_G} {dA : Nat → ClassId} {a : Nat} {e : GE} {H : Heap} (h : gAt D dA a e H) : a < H.size := by
  cases e with
  | inl x =>
    obtain ⟨k, x⟩ := x
    by_cases hk : k = 9
    · simp only [gAt, hk, if_true] at h
      obtain ⟨scr, f, h0, h1, h2⟩ := h
      exact (Array.getElem?_eq_some_iff.mp h1).1
    · simp only [gAt, hk, if_false] at h
      exact (Array.getElem?_eq_some_iff.mp h).1
  | inr o => exact va_at.lt (q := (a, .inr o)) h
theorem gAt.arr {D : va_G} {dA : Nat → ClassId} {a k : Nat} {x : vp_A} {H : Heap} (hk : k ≠ 9) (h : gAt D dA a (.inl (k, x)) H) : H[a]? = some (vp_cell (dA k) x) := by
  simp only [gAt, hk, if_false] at h; exact h
theorem gAt.mk {D : va_G} {dA : Nat → ClassId} {a k : Nat} {x : vp_A} {H : Heap} (hk : k ≠ 9) (h : H[a]? = some (vp_cell (dA k) x)) : gAt D dA a (.inl (k, x)) H := by
  simp only [gAt, hk, if_false]; exact h
theorem GRep.put {D : va_G} {dA : Nat → ClassId} {base z : Nat} {M : Hp} {H H1 : Heap} {a : Nat} {e0 e : GE} (h : GRep D dA base z M H) (ha : M a = some e0) (hr : gro e0 = false) (he : gAt D dA a e H1) (hz : H1.size = H.size) (oq : ∀ q : Nat, q ≠ a → H1[q]? = H[q]?) : GRep D dA base z (hpu M a e) H1 := by
  refine ⟨hz.trans h.1, fun b e' hb => ?_⟩
  by_cases hba : b = a
  · subst hba
    rw [hpu_same] at hb
    cases hb
    exact ⟨he, fun _ => (h.2 b e0 ha).2 hr⟩
  · rw [hpu_ne M e hba] at hb
    exact ⟨(h.2 b e' hb).1.kept (oq b hba), (h.2 b e' hb).2⟩
theorem GRep.push {D : va_G} {dA : Nat → ClassId} {base z : Nat} {M : Hp} {H H1 : Heap} {e : GE} (h : GRep D dA base z M H) (hb : base ≤ z) (he : gAt D dA z e H1) (hz : H1.size = z + 1) (oq : ∀ q : Nat, q < z → H1[q]? = H[q]?) : GRep D dA base (z + 1) (hpu M z e) H1 := by
  refine ⟨hz, fun b e' hb' => ?_⟩
  by_cases hba : b = z
  · subst hba
    rw [hpu_same] at hb'
    cases hb'
    exact ⟨he, fun _ => hb⟩
  · rw [hpu_ne M e hba] at hb'
    have h1 := (h.2 b e' hb').1
    have hlt : b < z := by rw [← h.1]; exact h1.lt
    exact ⟨h1.kept (oq b hlt), (h.2 b e' hb').2⟩
theorem GRep.grow {D : va_G} {dA : Nat → ClassId} {base z : Nat} {M : Hp} {H H1 : Heap} (h : GRep D dA base z M H) (hz : H.size ≤ H1.size) (oq : ∀ q : Nat, q < H.size → H1[q]? = H[q]?) : GRep D dA base H1.size M H1 :=
  ⟨rfl, fun b e' hb' => ⟨(h.2 b e' hb').1.kept (oq b (h.2 b e' hb').1.lt), (h.2 b e' hb').2⟩⟩
/-! what stays of the tables -/
def gnest : Cond → Bool
  | .fieldLinkNest .. => true
  | .methodLinkNest .. => true
  | _ => false
def gN : List Cond := tables_1.filter gnest
def gS : List (String × Nat × String) := tables_1.filterMap (fun w => match w with
  | .stringRef o k t => some (o, k, t)
  | _ => none)
/-- words on the tables that are no good words, yet stay -/
def gothr : Cond → Bool
  | .castable .. => true
  | .declares .. => true
  | _ => false
def gO : List Cond := tables_1.filter gothr
def gNC : List (String × String) := [("java/lang/IllegalStateException", "java/lang/IllegalArgumentException"), ("java/lang/IndexOutOfBoundsException", "java/lang/IllegalArgumentException"), ("java/lang/IllegalArgumentException", "java/lang/IllegalStateException"), ("java/lang/IndexOutOfBoundsException", "java/lang/IllegalStateException"), ("java/lang/IllegalArgumentException", "java/lang/IndexOutOfBoundsException"), ("java/lang/IllegalStateException", "java/lang/IndexOutOfBoundsException")]
def gtys (dA : Nat → ClassId) : List (ClassId × FieldType) := [(dA 0, .int), (dA 1, .char), (dA 2, .boolean), (dA 3, .long), (dA 4, .object "RugPunch$Rug"), (dA 5, .object "RugPunch$Script")]
def GT (D : va_G) (dA : Nat → ClassId) (U : State) : Prop :=
  va_K D vwCl (gtys dA) U ∧ ArrOfT U (dA 9) .int ∧ (∀ w ∈ gN, va_Nw w U) ∧ (∀ q ∈ gS, ∃ sa, vk_R q.1 q.2.1 q.2.2 sa U) ∧ va_AO "RugPunch$Rug" U ∧ va_AO "RugPunch$Script" U ∧ (∀ w ∈ gO, va_Nw w U) ∧ (∀ q ∈ gNC, va_Nc q.1 q.2 U)
theorem va_Nw.warmD2 {x : MethodName} {s U : State} (hW : s.WarmedH U.vm) (h : va_Nw (.declares x) s) : va_Nw (.declares x) U := by
  have h1 : (Cond.declares x).before #[] (s.setVm U.vm) = true := by
    rw [Cond.declares_setVm hW.alike]
    exact h
  exact va_tabs rfl (rfl : (s.setVm U.vm).vm = U.vm) h1
theorem va_Nw.warmK {a b : String} {s U : State} (hW : s.WarmedH U.vm) (h : va_Nw (.castable a b) s) : va_Nw (.castable a b) U := by
  have hvm := hW.alike
  obtain ⟨c, t, h1, h2, h3⟩ := Cond.castable_spec (show (Cond.castable a b).holds #[] s none s [] = true from h)
  have e1 : U.vm.findClass a = some c := by rw [hvm.findClass]; exact h1
  have e2 : U.vm.findClass b = some t := by rw [hvm.findClass]; exact h2
  have e3 : U.vm.assignable c t = true := by rw [hvm.assignable]; exact h3
  simp [va_Nw, Cond.before, Cond.holds, Cond.value, e1, e2, e3]
theorem va_AO_warm {C : String} {s U : State} (hW : s.WarmedH U.vm) (h : va_AO C s) : va_AO C U := va_AO.moved hW.alike h
theorem GT.warm {D : va_G} {dA : Nat → ClassId} {s U : State} (hW : s.WarmedH U.vm) (h : GT D dA s) : GT D dA U := by
  obtain ⟨h1, h2, h3, h4, h5, h6, h7, h8⟩ := h
  refine ⟨va_K.moved hW.alike h1, arrOfT_moved hW.alike h2, fun w hw => ?_, fun q hq => ?_, va_AO_warm hW h5, va_AO_warm hW h6, fun w hw => ?_, fun q hq => va_Nc.moved hW.alike (h8 q hq)⟩
  · have hg := (List.mem_filter.mp hw).2
    have h := h3 w hw
    cases w <;> first | exact va_Nw.warmF hW h | exact va_Nw.warmM hW h | (exact absurd hg (by simp [gnest]))
  · obtain ⟨sa, h⟩ := h4 q hq
    exact ⟨sa, vk_R.warm hW h⟩
  · have hg := (List.mem_filter.mp hw).2
    have h := h7 w hw
    cases w <;> first | exact va_Nw.warmK hW h | exact va_Nw.warmD2 hW h | (exact absurd hg (by simp [gothr]))
def gA (base : Nat) : Nat → Prop := fun q => base ≤ q
def GS (base : Nat) (U : State) (H : Heap) : Prop := vx_Zq Bundle.tN "UNASSIGNED_STACK" Bundle.steD (gA base) U H ∧ vx_Zq Bundle.tN "SUPPRESSED_SENTINEL" Bundle.listD (gA base) U H
theorem GS.moved {base : Nat} {u U : State} {H : Heap} (hvm : u.vm.Alike U.vm) (h : GS base u H) : GS base U H := ⟨vx_Zq.moved hvm h.1, vx_Zq.moved hvm h.2⟩
theorem GS.kept {base : Nat} {U : State} {H H1 : Heap} (h : GS base U H) (hq : ∀ a : Nat, a < H.size → ¬ gA base a → H1[a]? = H[a]?) : GS base U H1 := ⟨vx_Zq.kept h.1 hq, vx_Zq.kept h.2 hq⟩
