section P35
variable {M M0 : Hp} {z b c j i n : Nat} {f g : Row} {x y w v : Int32} {I : Row} {A : Nat → Row} {Φ : GR → Hp → Nat → Prop}
/-- the model's object: its numbers I (by their fields' places), its arrays A (1 now, 2 trial, 3 area, 4 .. 8 the stack, 9 book, 10 kept, 11 isKept, 12 text) -/
def mobL (b : Nat) (I : Row) : List Value := [.int (I 0), .ref (b + 1), .ref (b + 2), .ref (b + 3), .ref (b + 4), .ref (b + 5), .ref (b + 6), .ref (b + 7), .ref (b + 8), .int (I 9), .int (I 10), .ref (b + 9), .int (I 12), .ref (b + 10), .ref (b + 11), .ref (b + 12), .int (I 16), .int (I 17), .int (I 18), .int (I 19)]
def MAt (M : Hp) (b : Nat) (I : Row) (A : Nat → Row) : Prop := M b = some (.inr (8, mobL b I)) ∧ M (b + 1) = some (aI 947 (A 1)) ∧ M (b + 2) = some (aI 947 (A 2)) ∧ M (b + 3) = some (aI 144 (A 3)) ∧ M (b + 4) = some (aI 24 (A 4)) ∧ M (b + 5) = some (aI 24 (A 5)) ∧ M (b + 6) = some (aI 24 (A 6)) ∧ M (b + 7) = some (aI 24 (A 7)) ∧ M (b + 8) = some (aI 24 (A 8)) ∧ M (b + 9) = some (aI 13258 (A 9)) ∧ M (b + 10) = some (aI 1894 (A 10)) ∧ M (b + 11) = some (aZ 2 (A 11)) ∧ M (b + 12) = some (aI 120 (A 12))
theorem MAt.i0 (h : MAt M b I A) : MAt (hpu M b (.inr (8, (mobL b I).set 0 (.int v)))) b (upd I 0 v) A := by
  obtain ⟨h0, h1, h2, h3, h4, h5, h6, h7, h8, h9, h10, h11, h12⟩ := h
  exact ⟨hpu_same _ _ _, (hpu_ne _ _ (by omega)).trans h1, (hpu_ne _ _ (by omega)).trans h2, (hpu_ne _ _ (by omega)).trans h3, (hpu_ne _ _ (by omega)).trans h4, (hpu_ne _ _ (by omega)).trans h5, (hpu_ne _ _ (by omega)).trans h6, (hpu_ne _ _ (by omega)).trans h7, (hpu_ne _ _ (by omega)).trans h8, (hpu_ne _ _ (by omega)).trans h9, (hpu_ne _ _ (by omega)).trans h10, (hpu_ne _ _ (by omega)).trans h11, (hpu_ne _ _ (by omega)).trans h12⟩
theorem g_putI0 {m : GM} {pc k n idx : Nat} {L : List (Option Value)} {rest : List Value} (d : dc m pc (.putfield idx) 3) (lk : gFL m idx 8 0 .int false) (hA : MAt M b I A) (h : ∀ M1, MAt M1 b (upd I 0 v) A → (∀ q, q ≠ b → M1 q = M q) → WP m (pc + 3) L rest M1 z k n Φ) : WP m pc L (.int v :: .ref b :: rest) M z k n Φ :=
  g_put d lk hA.1 rfl rfl (by show 0 < 20; omega) rfl (h _ hA.i0 (fun q hq => hpu_ne _ _ hq))
theorem MAt.i9 (h : MAt M b I A) : MAt (hpu M b (.inr (8, (mobL b I).set 9 (.int v)))) b (upd I 9 v) A := by
  obtain ⟨h0, h1, h2, h3, h4, h5, h6, h7, h8, h9, h10, h11, h12⟩ := h
  exact ⟨hpu_same _ _ _, (hpu_ne _ _ (by omega)).trans h1, (hpu_ne _ _ (by omega)).trans h2, (hpu_ne _ _ (by omega)).trans h3, (hpu_ne _ _ (by omega)).trans h4, (hpu_ne _ _ (by omega)).trans h5, (hpu_ne _ _ (by omega)).trans h6, (hpu_ne _ _ (by omega)).trans h7, (hpu_ne _ _ (by omega)).trans h8, (hpu_ne _ _ (by omega)).trans h9, (hpu_ne _ _ (by omega)).trans h10, (hpu_ne _ _ (by omega)).trans h11, (hpu_ne _ _ (by omega)).trans h12⟩
theorem g_putI9 {m : GM} {pc k n idx : Nat} {L : List (Option Value)} {rest : List Value} (d : dc m pc (.putfield idx) 3) (lk : gFL m idx 8 9 .int false) (hA : MAt M b I A) (h : ∀ M1, MAt M1 b (upd I 9 v) A → (∀ q, q ≠ b → M1 q = M q) → WP m (pc + 3) L rest M1 z k n Φ) : WP m pc L (.int v :: .ref b :: rest) M z k n Φ :=
  g_put d lk hA.1 rfl rfl (by show 9 < 20; omega) rfl (h _ hA.i9 (fun q hq => hpu_ne _ _ hq))
theorem MAt.i10 (h : MAt M b I A) : MAt (hpu M b (.inr (8, (mobL b I).set 10 (.int v)))) b (upd I 10 v) A := by
  obtain ⟨h0, h1, h2, h3, h4, h5, h6, h7, h8, h9, h10, h11, h12⟩ := h
  exact ⟨hpu_same _ _ _, (hpu_ne _ _ (by omega)).trans h1, (hpu_ne _ _ (by omega)).trans h2, (hpu_ne _ _ (by omega)).trans h3, (hpu_ne _ _ (by omega)).trans h4, (hpu_ne _ _ (by omega)).trans h5, (hpu_ne _ _ (by omega)).trans h6, (hpu_ne _ _ (by omega)).trans h7, (hpu_ne _ _ (by omega)).trans h8, (hpu_ne _ _ (by omega)).trans h9, (hpu_ne _ _ (by omega)).trans h10, (hpu_ne _ _ (by omega)).trans h11, (hpu_ne _ _ (by omega)).trans h12⟩
theorem g_putI10 {m : GM} {pc k n idx : Nat} {L : List (Option Value)} {rest : List Value} (d : dc m pc (.putfield idx) 3) (lk : gFL m idx 8 10 .int false) (hA : MAt M b I A) (h : ∀ M1, MAt M1 b (upd I 10 v) A → (∀ q, q ≠ b → M1 q = M q) → WP m (pc + 3) L rest M1 z k n Φ) : WP m pc L (.int v :: .ref b :: rest) M z k n Φ :=
  g_put d lk hA.1 rfl rfl (by show 10 < 20; omega) rfl (h _ hA.i10 (fun q hq => hpu_ne _ _ hq))
theorem MAt.i12 (h : MAt M b I A) : MAt (hpu M b (.inr (8, (mobL b I).set 12 (.int v)))) b (upd I 12 v) A := by
  obtain ⟨h0, h1, h2, h3, h4, h5, h6, h7, h8, h9, h10, h11, h12⟩ := h
  exact ⟨hpu_same _ _ _, (hpu_ne _ _ (by omega)).trans h1, (hpu_ne _ _ (by omega)).trans h2, (hpu_ne _ _ (by omega)).trans h3, (hpu_ne _ _ (by omega)).trans h4, (hpu_ne _ _ (by omega)).trans h5, (hpu_ne _ _ (by omega)).trans h6, (hpu_ne _ _ (by omega)).trans h7, (hpu_ne _ _ (by omega)).trans h8, (hpu_ne _ _ (by omega)).trans h9, (hpu_ne _ _ (by omega)).trans h10, (hpu_ne _ _ (by omega)).trans h11, (hpu_ne _ _ (by omega)).trans h12⟩
theorem g_putI12 {m : GM} {pc k n idx : Nat} {L : List (Option Value)} {rest : List Value} (d : dc m pc (.putfield idx) 3) (lk : gFL m idx 8 12 .int false) (hA : MAt M b I A) (h : ∀ M1, MAt M1 b (upd I 12 v) A → (∀ q, q ≠ b → M1 q = M q) → WP m (pc + 3) L rest M1 z k n Φ) : WP m pc L (.int v :: .ref b :: rest) M z k n Φ :=
  g_put d lk hA.1 rfl rfl (by show 12 < 20; omega) rfl (h _ hA.i12 (fun q hq => hpu_ne _ _ hq))
theorem MAt.i16 (h : MAt M b I A) : MAt (hpu M b (.inr (8, (mobL b I).set 16 (.int v)))) b (upd I 16 v) A := by
  obtain ⟨h0, h1, h2, h3, h4, h5, h6, h7, h8, h9, h10, h11, h12⟩ := h
  exact ⟨hpu_same _ _ _, (hpu_ne _ _ (by omega)).trans h1, (hpu_ne _ _ (by omega)).trans h2, (hpu_ne _ _ (by omega)).trans h3, (hpu_ne _ _ (by omega)).trans h4, (hpu_ne _ _ (by omega)).trans h5, (hpu_ne _ _ (by omega)).trans h6, (hpu_ne _ _ (by omega)).trans h7, (hpu_ne _ _ (by omega)).trans h8, (hpu_ne _ _ (by omega)).trans h9, (hpu_ne _ _ (by omega)).trans h10, (hpu_ne _ _ (by omega)).trans h11, (hpu_ne _ _ (by omega)).trans h12⟩
theorem g_putI16 {m : GM} {pc k n idx : Nat} {L : List (Option Value)} {rest : List Value} (d : dc m pc (.putfield idx) 3) (lk : gFL m idx 8 16 .int false) (hA : MAt M b I A) (h : ∀ M1, MAt M1 b (upd I 16 v) A → (∀ q, q ≠ b → M1 q = M q) → WP m (pc + 3) L rest M1 z k n Φ) : WP m pc L (.int v :: .ref b :: rest) M z k n Φ :=
  g_put d lk hA.1 rfl rfl (by show 16 < 20; omega) rfl (h _ hA.i16 (fun q hq => hpu_ne _ _ hq))
theorem MAt.i17 (h : MAt M b I A) : MAt (hpu M b (.inr (8, (mobL b I).set 17 (.int v)))) b (upd I 17 v) A := by
  obtain ⟨h0, h1, h2, h3, h4, h5, h6, h7, h8, h9, h10, h11, h12⟩ := h
  exact ⟨hpu_same _ _ _, (hpu_ne _ _ (by omega)).trans h1, (hpu_ne _ _ (by omega)).trans h2, (hpu_ne _ _ (by omega)).trans h3, (hpu_ne _ _ (by omega)).trans h4, (hpu_ne _ _ (by omega)).trans h5, (hpu_ne _ _ (by omega)).trans h6, (hpu_ne _ _ (by omega)).trans h7, (hpu_ne _ _ (by omega)).trans h8, (hpu_ne _ _ (by omega)).trans h9, (hpu_ne _ _ (by omega)).trans h10, (hpu_ne _ _ (by omega)).trans h11, (hpu_ne _ _ (by omega)).trans h12⟩
theorem g_putI17 {m : GM} {pc k n idx : Nat} {L : List (Option Value)} {rest : List Value} (d : dc m pc (.putfield idx) 3) (lk : gFL m idx 8 17 .int false) (hA : MAt M b I A) (h : ∀ M1, MAt M1 b (upd I 17 v) A → (∀ q, q ≠ b → M1 q = M q) → WP m (pc + 3) L rest M1 z k n Φ) : WP m pc L (.int v :: .ref b :: rest) M z k n Φ :=
  g_put d lk hA.1 rfl rfl (by show 17 < 20; omega) rfl (h _ hA.i17 (fun q hq => hpu_ne _ _ hq))
theorem MAt.i18 (h : MAt M b I A) : MAt (hpu M b (.inr (8, (mobL b I).set 18 (.int v)))) b (upd I 18 v) A := by
  obtain ⟨h0, h1, h2, h3, h4, h5, h6, h7, h8, h9, h10, h11, h12⟩ := h
  exact ⟨hpu_same _ _ _, (hpu_ne _ _ (by omega)).trans h1, (hpu_ne _ _ (by omega)).trans h2, (hpu_ne _ _ (by omega)).trans h3, (hpu_ne _ _ (by omega)).trans h4, (hpu_ne _ _ (by omega)).trans h5, (hpu_ne _ _ (by omega)).trans h6, (hpu_ne _ _ (by omega)).trans h7, (hpu_ne _ _ (by omega)).trans h8, (hpu_ne _ _ (by omega)).trans h9, (hpu_ne _ _ (by omega)).trans h10, (hpu_ne _ _ (by omega)).trans h11, (hpu_ne _ _ (by omega)).trans h12⟩
theorem g_putI18 {m : GM} {pc k n idx : Nat} {gd : Bool} {L : List (Option Value)} {rest : List Value} (d : dc m pc (.putfield idx) 3) (lk : gFL m idx 8 18 .boolean false) (hA : MAt M b I A) (h : ∀ M1, MAt M1 b (upd I 18 (bI gd)) A → (∀ q, q ≠ b → M1 q = M q) → WP m (pc + 3) L rest M1 z k n Φ) : WP m pc L (.int (bI gd) :: .ref b :: rest) M z k n Φ :=
  g_put d lk hA.1 (bI_narrow gd) (by cases gd <;> rfl) (by show 18 < 20; omega) rfl (h _ hA.i18 (fun q hq => hpu_ne _ _ hq))
theorem MAt.i19 (h : MAt M b I A) : MAt (hpu M b (.inr (8, (mobL b I).set 19 (.int v)))) b (upd I 19 v) A := by
  obtain ⟨h0, h1, h2, h3, h4, h5, h6, h7, h8, h9, h10, h11, h12⟩ := h
  exact ⟨hpu_same _ _ _, (hpu_ne _ _ (by omega)).trans h1, (hpu_ne _ _ (by omega)).trans h2, (hpu_ne _ _ (by omega)).trans h3, (hpu_ne _ _ (by omega)).trans h4, (hpu_ne _ _ (by omega)).trans h5, (hpu_ne _ _ (by omega)).trans h6, (hpu_ne _ _ (by omega)).trans h7, (hpu_ne _ _ (by omega)).trans h8, (hpu_ne _ _ (by omega)).trans h9, (hpu_ne _ _ (by omega)).trans h10, (hpu_ne _ _ (by omega)).trans h11, (hpu_ne _ _ (by omega)).trans h12⟩
theorem g_putI19 {m : GM} {pc k n idx : Nat} {L : List (Option Value)} {rest : List Value} (d : dc m pc (.putfield idx) 3) (lk : gFL m idx 8 19 .int false) (hA : MAt M b I A) (h : ∀ M1, MAt M1 b (upd I 19 v) A → (∀ q, q ≠ b → M1 q = M q) → WP m (pc + 3) L rest M1 z k n Φ) : WP m pc L (.int v :: .ref b :: rest) M z k n Φ :=
  g_put d lk hA.1 rfl rfl (by show 19 < 20; omega) rfl (h _ hA.i19 (fun q hq => hpu_ne _ _ hq))
def stg (A : Nat → Row) (i : Nat) (g : Row) : Nat → Row := fun j => if j = i then g else A j
theorem stg_eq : stg A i g i = g := if_pos rfl
theorem stg_ne (h : j ≠ i) : stg A i g j = A j := if_neg h
theorem MAt.a1 (h : MAt M b I A) : MAt (hpu M (b + 1) (aI 947 g)) b I (stg A 1 g) := by
  obtain ⟨h0, h1, h2, h3, h4, h5, h6, h7, h8, h9, h10, h11, h12⟩ := h
  exact ⟨(hpu_ne _ _ (by omega)).trans h0, hpu_same _ _ _, (hpu_ne _ _ (by omega)).trans h2, (hpu_ne _ _ (by omega)).trans h3, (hpu_ne _ _ (by omega)).trans h4, (hpu_ne _ _ (by omega)).trans h5, (hpu_ne _ _ (by omega)).trans h6, (hpu_ne _ _ (by omega)).trans h7, (hpu_ne _ _ (by omega)).trans h8, (hpu_ne _ _ (by omega)).trans h9, (hpu_ne _ _ (by omega)).trans h10, (hpu_ne _ _ (by omega)).trans h11, (hpu_ne _ _ (by omega)).trans h12⟩
theorem MAt.a2 (h : MAt M b I A) : MAt (hpu M (b + 2) (aI 947 g)) b I (stg A 2 g) := by
  obtain ⟨h0, h1, h2, h3, h4, h5, h6, h7, h8, h9, h10, h11, h12⟩ := h
  exact ⟨(hpu_ne _ _ (by omega)).trans h0, (hpu_ne _ _ (by omega)).trans h1, hpu_same _ _ _, (hpu_ne _ _ (by omega)).trans h3, (hpu_ne _ _ (by omega)).trans h4, (hpu_ne _ _ (by omega)).trans h5, (hpu_ne _ _ (by omega)).trans h6, (hpu_ne _ _ (by omega)).trans h7, (hpu_ne _ _ (by omega)).trans h8, (hpu_ne _ _ (by omega)).trans h9, (hpu_ne _ _ (by omega)).trans h10, (hpu_ne _ _ (by omega)).trans h11, (hpu_ne _ _ (by omega)).trans h12⟩
theorem MAt.a3 (h : MAt M b I A) : MAt (hpu M (b + 3) (aI 144 g)) b I (stg A 3 g) := by
  obtain ⟨h0, h1, h2, h3, h4, h5, h6, h7, h8, h9, h10, h11, h12⟩ := h
  exact ⟨(hpu_ne _ _ (by omega)).trans h0, (hpu_ne _ _ (by omega)).trans h1, (hpu_ne _ _ (by omega)).trans h2, hpu_same _ _ _, (hpu_ne _ _ (by omega)).trans h4, (hpu_ne _ _ (by omega)).trans h5, (hpu_ne _ _ (by omega)).trans h6, (hpu_ne _ _ (by omega)).trans h7, (hpu_ne _ _ (by omega)).trans h8, (hpu_ne _ _ (by omega)).trans h9, (hpu_ne _ _ (by omega)).trans h10, (hpu_ne _ _ (by omega)).trans h11, (hpu_ne _ _ (by omega)).trans h12⟩
theorem MAt.a4 (h : MAt M b I A) : MAt (hpu M (b + 4) (aI 24 g)) b I (stg A 4 g) := by
  obtain ⟨h0, h1, h2, h3, h4, h5, h6, h7, h8, h9, h10, h11, h12⟩ := h
  exact ⟨(hpu_ne _ _ (by omega)).trans h0, (hpu_ne _ _ (by omega)).trans h1, (hpu_ne _ _ (by omega)).trans h2, (hpu_ne _ _ (by omega)).trans h3, hpu_same _ _ _, (hpu_ne _ _ (by omega)).trans h5, (hpu_ne _ _ (by omega)).trans h6, (hpu_ne _ _ (by omega)).trans h7, (hpu_ne _ _ (by omega)).trans h8, (hpu_ne _ _ (by omega)).trans h9, (hpu_ne _ _ (by omega)).trans h10, (hpu_ne _ _ (by omega)).trans h11, (hpu_ne _ _ (by omega)).trans h12⟩
theorem MAt.a5 (h : MAt M b I A) : MAt (hpu M (b + 5) (aI 24 g)) b I (stg A 5 g) := by
  obtain ⟨h0, h1, h2, h3, h4, h5, h6, h7, h8, h9, h10, h11, h12⟩ := h
  exact ⟨(hpu_ne _ _ (by omega)).trans h0, (hpu_ne _ _ (by omega)).trans h1, (hpu_ne _ _ (by omega)).trans h2, (hpu_ne _ _ (by omega)).trans h3, (hpu_ne _ _ (by omega)).trans h4, hpu_same _ _ _, (hpu_ne _ _ (by omega)).trans h6, (hpu_ne _ _ (by omega)).trans h7, (hpu_ne _ _ (by omega)).trans h8, (hpu_ne _ _ (by omega)).trans h9, (hpu_ne _ _ (by omega)).trans h10, (hpu_ne _ _ (by omega)).trans h11, (hpu_ne _ _ (by omega)).trans h12⟩
theorem MAt.a6 (h : MAt M b I A) : MAt (hpu M (b + 6) (aI 24 g)) b I (stg A 6 g) := by
  obtain ⟨h0, h1, h2, h3, h4, h5, h6, h7, h8, h9, h10, h11, h12⟩ := h
  exact ⟨(hpu_ne _ _ (by omega)).trans h0, (hpu_ne _ _ (by omega)).trans h1, (hpu_ne _ _ (by omega)).trans h2, (hpu_ne _ _ (by omega)).trans h3, (hpu_ne _ _ (by omega)).trans h4, (hpu_ne _ _ (by omega)).trans h5, hpu_same _ _ _, (hpu_ne _ _ (by omega)).trans h7, (hpu_ne _ _ (by omega)).trans h8, (hpu_ne _ _ (by omega)).trans h9, (hpu_ne _ _ (by omega)).trans h10, (hpu_ne _ _ (by omega)).trans h11, (hpu_ne _ _ (by omega)).trans h12⟩
theorem MAt.a7 (h : MAt M b I A) : MAt (hpu M (b + 7) (aI 24 g)) b I (stg A 7 g) := by
  obtain ⟨h0, h1, h2, h3, h4, h5, h6, h7, h8, h9, h10, h11, h12⟩ := h
  exact ⟨(hpu_ne _ _ (by omega)).trans h0, (hpu_ne _ _ (by omega)).trans h1, (hpu_ne _ _ (by omega)).trans h2, (hpu_ne _ _ (by omega)).trans h3, (hpu_ne _ _ (by omega)).trans h4, (hpu_ne _ _ (by omega)).trans h5, (hpu_ne _ _ (by omega)).trans h6, hpu_same _ _ _, (hpu_ne _ _ (by omega)).trans h8, (hpu_ne _ _ (by omega)).trans h9, (hpu_ne _ _ (by omega)).trans h10, (hpu_ne _ _ (by omega)).trans h11, (hpu_ne _ _ (by omega)).trans h12⟩
theorem MAt.a8 (h : MAt M b I A) : MAt (hpu M (b + 8) (aI 24 g)) b I (stg A 8 g) := by
  obtain ⟨h0, h1, h2, h3, h4, h5, h6, h7, h8, h9, h10, h11, h12⟩ := h
  exact ⟨(hpu_ne _ _ (by omega)).trans h0, (hpu_ne _ _ (by omega)).trans h1, (hpu_ne _ _ (by omega)).trans h2, (hpu_ne _ _ (by omega)).trans h3, (hpu_ne _ _ (by omega)).trans h4, (hpu_ne _ _ (by omega)).trans h5, (hpu_ne _ _ (by omega)).trans h6, (hpu_ne _ _ (by omega)).trans h7, hpu_same _ _ _, (hpu_ne _ _ (by omega)).trans h9, (hpu_ne _ _ (by omega)).trans h10, (hpu_ne _ _ (by omega)).trans h11, (hpu_ne _ _ (by omega)).trans h12⟩
theorem MAt.a9 (h : MAt M b I A) : MAt (hpu M (b + 9) (aI 13258 g)) b I (stg A 9 g) := by
  obtain ⟨h0, h1, h2, h3, h4, h5, h6, h7, h8, h9, h10, h11, h12⟩ := h
  exact ⟨(hpu_ne _ _ (by omega)).trans h0, (hpu_ne _ _ (by omega)).trans h1, (hpu_ne _ _ (by omega)).trans h2, (hpu_ne _ _ (by omega)).trans h3, (hpu_ne _ _ (by omega)).trans h4, (hpu_ne _ _ (by omega)).trans h5, (hpu_ne _ _ (by omega)).trans h6, (hpu_ne _ _ (by omega)).trans h7, (hpu_ne _ _ (by omega)).trans h8, hpu_same _ _ _, (hpu_ne _ _ (by omega)).trans h10, (hpu_ne _ _ (by omega)).trans h11, (hpu_ne _ _ (by omega)).trans h12⟩
theorem MAt.a10 (h : MAt M b I A) : MAt (hpu M (b + 10) (aI 1894 g)) b I (stg A 10 g) := by
  obtain ⟨h0, h1, h2, h3, h4, h5, h6, h7, h8, h9, h10, h11, h12⟩ := h
  exact ⟨(hpu_ne _ _ (by omega)).trans h0, (hpu_ne _ _ (by omega)).trans h1, (hpu_ne _ _ (by omega)).trans h2, (hpu_ne _ _ (by omega)).trans h3, (hpu_ne _ _ (by omega)).trans h4, (hpu_ne _ _ (by omega)).trans h5, (hpu_ne _ _ (by omega)).trans h6, (hpu_ne _ _ (by omega)).trans h7, (hpu_ne _ _ (by omega)).trans h8, (hpu_ne _ _ (by omega)).trans h9, hpu_same _ _ _, (hpu_ne _ _ (by omega)).trans h11, (hpu_ne _ _ (by omega)).trans h12⟩
theorem MAt.a11 (h : MAt M b I A) : MAt (hpu M (b + 11) (aZ 2 g)) b I (stg A 11 g) := by
  obtain ⟨h0, h1, h2, h3, h4, h5, h6, h7, h8, h9, h10, h11, h12⟩ := h
  exact ⟨(hpu_ne _ _ (by omega)).trans h0, (hpu_ne _ _ (by omega)).trans h1, (hpu_ne _ _ (by omega)).trans h2, (hpu_ne _ _ (by omega)).trans h3, (hpu_ne _ _ (by omega)).trans h4, (hpu_ne _ _ (by omega)).trans h5, (hpu_ne _ _ (by omega)).trans h6, (hpu_ne _ _ (by omega)).trans h7, (hpu_ne _ _ (by omega)).trans h8, (hpu_ne _ _ (by omega)).trans h9, (hpu_ne _ _ (by omega)).trans h10, hpu_same _ _ _, (hpu_ne _ _ (by omega)).trans h12⟩
theorem MAt.a12 (h : MAt M b I A) : MAt (hpu M (b + 12) (aI 120 g)) b I (stg A 12 g) := by
  obtain ⟨h0, h1, h2, h3, h4, h5, h6, h7, h8, h9, h10, h11, h12⟩ := h
  exact ⟨(hpu_ne _ _ (by omega)).trans h0, (hpu_ne _ _ (by omega)).trans h1, (hpu_ne _ _ (by omega)).trans h2, (hpu_ne _ _ (by omega)).trans h3, (hpu_ne _ _ (by omega)).trans h4, (hpu_ne _ _ (by omega)).trans h5, (hpu_ne _ _ (by omega)).trans h6, (hpu_ne _ _ (by omega)).trans h7, (hpu_ne _ _ (by omega)).trans h8, (hpu_ne _ _ (by omega)).trans h9, (hpu_ne _ _ (by omega)).trans h10, (hpu_ne _ _ (by omega)).trans h11, hpu_same _ _ _⟩
/-- a method of the model's object at b: its answer, the numbers, the arrays -/
def MMut (v : Option Value) (M : Hp) (b : Nat) (I' : Row) (A' : Nat → Row) (z : Nat) : GR → Hp → Nat → Prop := fun r M' z' => r = .inl v ∧ MAt M' b I' A' ∧ Out M M' b 13 ∧ z' = z
theorem MAt.get {k : Nat} (h : MAt M b I A) : M b = some (.inr (8, mobL b I)) := h.1
theorem m_refused (hA : MAt M b I A) : Runs mX8_refused [.ref b, .int x] M z (MMut (some (.int (bI (decide (x ≠ 0))))) M b (upd I 0 x) A z) := by
  refine runs_of plX8 rfl (Nat.le_of_ble_eq_true rfl) ?_
  show WP mX8_refused 0 [some (.ref b), some (.int x)] [] M z 0 0 _
  refine g_aload_0 dX8_refused_0 ?_
  refine g_iload_1 dX8_refused_1 ?_
  refine g_putI0 dX8_refused_2 (fX8_47 rfl) hA (fun M1 hA1 n1 => ?_)
  have hao1 := hA1.1
  refine g_iload_1 dX8_refused_5 ?_
  refine g_if_eq (tgt := 13) dX8_refused_6 (by decide)  (fun h6 => ?_) (fun h6 => ?_)
  · refine g_iconst (v := nI 0) dX8_refused_13 rfl ?_
    exact g_ireturn rfl rfl dX8_refused_14 (Nat.le_of_ble_eq_true rfl) (Nat.le_of_ble_eq_true rfl) (by first | exact ⟨by rw [decide_eq_false (fun q => q h6)]; rfl, hA1, (fun q hq => n1 q (by omega)), rfl⟩ | exact ⟨by rw [decide_eq_true h6]; rfl, hA1, (fun q hq => n1 q (by omega)), rfl⟩)
  · refine g_iconst (v := nI 1) dX8_refused_9 rfl ?_
    refine g_goto (tgt := 14) dX8_refused_10 (by decide) ?_
    exact g_ireturn rfl rfl dX8_refused_14 (Nat.le_of_ble_eq_true rfl) (Nat.le_of_ble_eq_true rfl) (by first | exact ⟨by rw [decide_eq_false (fun q => q h6)]; rfl, hA1, (fun q hq => n1 q (by omega)), rfl⟩ | exact ⟨by rw [decide_eq_true h6]; rfl, hA1, (fun q hq => n1 q (by omega)), rfl⟩)
theorem m_tell (hA : MAt M b I A) (hn : n < 947) : Runs mX8_tell [.ref b, .int (nI n)] M z (MMut (some (.int (A 1 n))) M b (upd I 0 (nI 0)) A z) := by
  refine runs_of plX8 rfl (Nat.le_of_ble_eq_true rfl) ?_
  show WP mX8_tell 0 [some (.ref b), some (.int (nI n))] [] M z 0 0 _
  refine g_aload_0 dX8_tell_0 ?_
  refine g_iconst (v := nI 0) dX8_tell_1 rfl ?_
  refine g_putI0 dX8_tell_2 (fX8_47 rfl) hA (fun M1 hA1 n1 => ?_)
  have hao1 := hA1.1
  refine g_aload_0 dX8_tell_5 ?_
  refine g_get dX8_tell_6 (fX8_7 rfl) hao1 rfl ?_
  refine g_iload_1 dX8_tell_9 ?_
  refine g_ialdN dX8_tell_10 hA1.2.1 (by omega) (by decide) ?_
  exact g_ireturn rfl rfl dX8_tell_11 (Nat.le_of_ble_eq_true rfl) (Nat.le_of_ble_eq_true rfl) ⟨rfl, hA1, (fun q hq => n1 q (by omega)), rfl⟩
theorem m_noCell (hA : MAt M b I A) : Runs mX8_noCell [.ref b, .int x] M z (MMut (some (.int (bI (!(decide (nI 0 ≤ x) && decide (x ≤ nI 143)))))) M b (upd I 0 (if (decide (nI 0 ≤ x) && decide (x ≤ nI 143)) = true then nI 0 else nI 1)) A z) := by
  have hao := hA.1
  refine runs_of plX8 rfl (Nat.le_of_ble_eq_true rfl) ?_
  show WP mX8_noCell 0 [some (.ref b), some (.int x)] [] M z 0 0 _
  refine g_aload_0 dX8_noCell_0 ?_
  refine g_iload_1 dX8_noCell_1 ?_
  refine g_s1_1 dX8_noCell_2 (sX8_186 rfl) rfl (Nat.le_of_ble_eq_true rfl) ⟨rfl, rfl⟩ (Nat.le_of_ble_eq_true rfl) (Nat.le_of_ble_eq_true rfl) (m_isCell) ?_
  refine g_if_eqB (tgt := 12) dX8_noCell_5 (by decide)  (fun h5 => ?_) (fun h5 => ?_)
  · refine g_iconst (v := nI 1) dX8_noCell_12 rfl ?_
    refine g_v1 dX8_noCell_13 (vX8_149 rfl) rfl hao (Nat.le_of_ble_eq_true rfl) (Nat.le_of_ble_eq_true rfl) (Nat.le_of_ble_eq_true rfl) (m_refused hA) (fun r M2 z2 hq => ?_) (fun E M2 z2 hq => by obtain ⟨hq, -⟩ := hq; cases hq)
    obtain ⟨hr, hA1, hO1, rfl⟩ := hq
    cases hr
    exact g_ireturn rfl (bI_narrow _) dX8_noCell_16 (Nat.le_of_ble_eq_true rfl) (Nat.le_of_ble_eq_true rfl) (by first | exact ⟨by rw [h5]; rfl, by rw [if_pos h5]; exact hA1, hO1, rfl⟩ | exact ⟨by rw [h5]; rfl, by rw [if_neg (by rw [h5]; decide)]; exact hA1, hO1, rfl⟩)
  · refine g_iconst (v := nI 0) dX8_noCell_8 rfl ?_
    refine g_goto (tgt := 13) dX8_noCell_9 (by decide) ?_
    refine g_v1 dX8_noCell_13 (vX8_149 rfl) rfl hao (Nat.le_of_ble_eq_true rfl) (Nat.le_of_ble_eq_true rfl) (Nat.le_of_ble_eq_true rfl) (m_refused hA) (fun r M2 z2 hq => ?_) (fun E M2 z2 hq => by obtain ⟨hq, -⟩ := hq; cases hq)
    obtain ⟨hr, hA1, hO1, rfl⟩ := hq
    cases hr
    exact g_ireturn rfl (bI_narrow _) dX8_noCell_16 (Nat.le_of_ble_eq_true rfl) (Nat.le_of_ble_eq_true rfl) (by first | exact ⟨by rw [h5]; rfl, by rw [if_pos h5]; exact hA1, hO1, rfl⟩ | exact ⟨by rw [h5]; rfl, by rw [if_neg (by rw [h5]; decide)]; exact hA1, hO1, rfl⟩)
theorem m_noColour (hA : MAt M b I A) : Runs mX8_noColour [.ref b, .int x] M z (MMut (some (.int (bI (!(decide (nI 0 ≤ x) && decide (x ≤ nI 4)))))) M b (upd I 0 (if (decide (nI 0 ≤ x) && decide (x ≤ nI 4)) = true then nI 0 else nI 1)) A z) := by
  have hao := hA.1
  refine runs_of plX8 rfl (Nat.le_of_ble_eq_true rfl) ?_
  show WP mX8_noColour 0 [some (.ref b), some (.int x)] [] M z 0 0 _
  refine g_aload_0 dX8_noColour_0 ?_
  refine g_iload_1 dX8_noColour_1 ?_
  refine g_s1_1 dX8_noColour_2 (sX8_189 rfl) rfl (Nat.le_of_ble_eq_true rfl) ⟨rfl, rfl⟩ (Nat.le_of_ble_eq_true rfl) (Nat.le_of_ble_eq_true rfl) (m_isColour) ?_
  refine g_if_eqB (tgt := 12) dX8_noColour_5 (by decide)  (fun h5 => ?_) (fun h5 => ?_)
  · refine g_iconst (v := nI 1) dX8_noColour_12 rfl ?_
    refine g_v1 dX8_noColour_13 (vX8_149 rfl) rfl hao (Nat.le_of_ble_eq_true rfl) (Nat.le_of_ble_eq_true rfl) (Nat.le_of_ble_eq_true rfl) (m_refused hA) (fun r M2 z2 hq => ?_) (fun E M2 z2 hq => by obtain ⟨hq, -⟩ := hq; cases hq)
    obtain ⟨hr, hA1, hO1, rfl⟩ := hq
    cases hr
    exact g_ireturn rfl (bI_narrow _) dX8_noColour_16 (Nat.le_of_ble_eq_true rfl) (Nat.le_of_ble_eq_true rfl) (by first | exact ⟨by rw [h5]; rfl, by rw [if_pos h5]; exact hA1, hO1, rfl⟩ | exact ⟨by rw [h5]; rfl, by rw [if_neg (by rw [h5]; decide)]; exact hA1, hO1, rfl⟩)
  · refine g_iconst (v := nI 0) dX8_noColour_8 rfl ?_
    refine g_goto (tgt := 13) dX8_noColour_9 (by decide) ?_
    refine g_v1 dX8_noColour_13 (vX8_149 rfl) rfl hao (Nat.le_of_ble_eq_true rfl) (Nat.le_of_ble_eq_true rfl) (Nat.le_of_ble_eq_true rfl) (m_refused hA) (fun r M2 z2 hq => ?_) (fun E M2 z2 hq => by obtain ⟨hq, -⟩ := hq; cases hq)
    obtain ⟨hr, hA1, hO1, rfl⟩ := hq
    cases hr
    exact g_ireturn rfl (bI_narrow _) dX8_noColour_16 (Nat.le_of_ble_eq_true rfl) (Nat.le_of_ble_eq_true rfl) (by first | exact ⟨by rw [h5]; rfl, by rw [if_pos h5]; exact hA1, hO1, rfl⟩ | exact ⟨by rw [h5]; rfl, by rw [if_neg (by rw [h5]; decide)]; exact hA1, hO1, rfl⟩)
variable {len p : Nat} {gd : Bool}
theorem m_here (hA : MAt M b I A) (hl : I 16 = nI len) (hp : I 17 = nI p) (hlen : len ≤ 120) (hp9 : p < 1000) : Runs mX8_here [.ref b] M z (gD (some (.int (if p < len then A 12 p else -1))) M z) := by
  refine runs_of plX8 rfl (Nat.le_of_ble_eq_true rfl) ?_
  show WP mX8_here 0 [some (.ref b)] [] M z 0 0 _
  refine g_aload_0 dX8_here_0 ?_
  refine g_get dX8_here_1 (fX8_153 rfl) hA.1 rfl ?_
  rw [hp]
  refine g_aload_0 dX8_here_4 ?_
  refine g_get dX8_here_5 (fX8_146 rfl) hA.1 rfl ?_
  rw [hl]
  refine g_icmp_geN (tgt := 23) dX8_here_8 (by decide) (by omega) (by omega) (fun h8 => ?_) (fun h8 => ?_)
  · refine g_iconst (v := -1) dX8_here_23 rfl ?_
    exact g_ireturn rfl rfl dX8_here_24 (Nat.le_of_ble_eq_true rfl) (Nat.le_of_ble_eq_true rfl) (gDi (by first | (rw [if_neg (by omega)]; done) | (rw [if_pos (by omega)]; done)))
  · refine g_aload_0 dX8_here_11 ?_
    refine g_get dX8_here_12 (fX8_44 rfl) hA.1 rfl ?_
    refine g_aload_0 dX8_here_15 ?_
    refine g_get dX8_here_16 (fX8_153 rfl) hA.1 rfl ?_
    rw [hp]
    refine g_ialdN dX8_here_19 hA.2.2.2.2.2.2.2.2.2.2.2.2 (by omega) (by decide) ?_
    refine g_goto (tgt := 24) dX8_here_20 (by decide) ?_
    exact g_ireturn rfl rfl dX8_here_24 (Nat.le_of_ble_eq_true rfl) (Nat.le_of_ble_eq_true rfl) (gDi (by first | (rw [if_neg (by omega)]; done) | (rw [if_pos (by omega)]; done)))
end P35
